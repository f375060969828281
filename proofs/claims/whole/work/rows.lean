section
-- ===== PART A: goes FIRST, ahead of the names: the tables' words, and 'selects' of the private methods out of them =====
/-- a private method of a class that the tables say can be made, by its rows of tables_1 -/
def lw_okq (q : MethodName × Nat) : Prop := (q.1.cls ≠ "java/lang/invoke/MethodHandle" ∧ q.1.cls ≠ "java/lang/invoke/VarHandle") ∧ Cond.instantiable q.1.cls q.2 ∈ tables_1 ∧ Cond.privateMethod q.1 ∈ tables_1 ∧ Cond.instanceMethod q.1 ∈ tables_1
theorem lw_p0 : lw_okq (⟨"java/lang/Throwable", "fillInStackTrace", "(I)Ljava/lang/Throwable;"⟩, 6) := ⟨⟨by decide +kernel, by decide +kernel⟩, List.mem_of_getElem? (i := 135) (by decide +kernel), List.mem_of_getElem? (i := 133) (by decide +kernel), List.mem_of_getElem? (i := 134) (by decide +kernel)⟩
theorem lw_p1 : lw_okq (⟨"java/util/ArrayList", "add", "(Ljava/lang/Object;[Ljava/lang/Object;I)V"⟩, 3) := ⟨⟨by decide +kernel, by decide +kernel⟩, List.mem_of_getElem? (i := 39) (by decide +kernel), List.mem_of_getElem? (i := 247) (by decide +kernel), List.mem_of_getElem? (i := 248) (by decide +kernel)⟩
theorem lw_p2 : lw_okq (⟨"java/util/ArrayList", "grow", "()[Ljava/lang/Object;"⟩, 3) := ⟨⟨by decide +kernel, by decide +kernel⟩, List.mem_of_getElem? (i := 39) (by decide +kernel), List.mem_of_getElem? (i := 251) (by decide +kernel), List.mem_of_getElem? (i := 252) (by decide +kernel)⟩
theorem lw_p3 : lw_okq (⟨"java/util/ArrayList", "grow", "(I)[Ljava/lang/Object;"⟩, 3) := ⟨⟨by decide +kernel, by decide +kernel⟩, List.mem_of_getElem? (i := 39) (by decide +kernel), List.mem_of_getElem? (i := 255) (by decide +kernel), List.mem_of_getElem? (i := 256) (by decide +kernel)⟩
theorem lw_p4 : lw_okq (⟨"Bandwidthclub", "memberInClub", "(I)LBandwidthclub$Member;"⟩, 6) := ⟨⟨by decide +kernel, by decide +kernel⟩, List.mem_of_getElem? (i := 31) (by decide +kernel), List.mem_of_getElem? (i := 311) (by decide +kernel), List.mem_of_getElem? (i := 312) (by decide +kernel)⟩
theorem lw_p5 : lw_okq (⟨"Bandwidthclub", "memberAt", "(I)LBandwidthclub$Member;"⟩, 6) := ⟨⟨by decide +kernel, by decide +kernel⟩, List.mem_of_getElem? (i := 31) (by decide +kernel), List.mem_of_getElem? (i := 315) (by decide +kernel), List.mem_of_getElem? (i := 316) (by decide +kernel)⟩
theorem lw_p6 : lw_okq (⟨"Bandwidthclub", "keepInLog", "(LBandwidthclub$Entry;)V"⟩, 6) := ⟨⟨by decide +kernel, by decide +kernel⟩, List.mem_of_getElem? (i := 31) (by decide +kernel), List.mem_of_getElem? (i := 388) (by decide +kernel), List.mem_of_getElem? (i := 389) (by decide +kernel)⟩
theorem lw_p7 : lw_okq (⟨"Bandwidthclub", "enter", "(LBandwidthclub$Entry;LBandwidthclub$Book;)V"⟩, 6) := ⟨⟨by decide +kernel, by decide +kernel⟩, List.mem_of_getElem? (i := 31) (by decide +kernel), List.mem_of_getElem? (i := 392) (by decide +kernel), List.mem_of_getElem? (i := 393) (by decide +kernel)⟩
theorem lw_p8 : lw_okq (⟨"Bandwidthclub", "costOf", "(LBandwidthclub$Entry;)I"⟩, 6) := ⟨⟨by decide +kernel, by decide +kernel⟩, List.mem_of_getElem? (i := 31) (by decide +kernel), List.mem_of_getElem? (i := 396) (by decide +kernel), List.mem_of_getElem? (i := 397) (by decide +kernel)⟩
theorem lw_p9 : lw_okq (⟨"Bandwidthclub", "valueIn", "(II)I"⟩, 6) := ⟨⟨by decide +kernel, by decide +kernel⟩, List.mem_of_getElem? (i := 31) (by decide +kernel), List.mem_of_getElem? (i := 402) (by decide +kernel), List.mem_of_getElem? (i := 403) (by decide +kernel)⟩
theorem lw_p10 : lw_okq (⟨"Bandwidthclub", "countInClub", "()I"⟩, 6) := ⟨⟨by decide +kernel, by decide +kernel⟩, List.mem_of_getElem? (i := 31) (by decide +kernel), List.mem_of_getElem? (i := 434) (by decide +kernel), List.mem_of_getElem? (i := 435) (by decide +kernel)⟩
theorem lw_p11 : lw_okq (⟨"Bandwidthclub", "filmAt", "(I)LBandwidthclub$Film;"⟩, 6) := ⟨⟨by decide +kernel, by decide +kernel⟩, List.mem_of_getElem? (i := 31) (by decide +kernel), List.mem_of_getElem? (i := 481) (by decide +kernel), List.mem_of_getElem? (i := 482) (by decide +kernel)⟩
theorem lw_p12 : lw_okq (⟨"Bandwidthclub", "planFetch", "(LBandwidthclub$Member;II)LBandwidthclub$Entry;"⟩, 6) := ⟨⟨by decide +kernel, by decide +kernel⟩, List.mem_of_getElem? (i := 31) (by decide +kernel), List.mem_of_getElem? (i := 487) (by decide +kernel), List.mem_of_getElem? (i := 488) (by decide +kernel)⟩
theorem lw_p13 : lw_okq (⟨"Bandwidthclub", "withMostLeft", "(I[I)I"⟩, 6) := ⟨⟨by decide +kernel, by decide +kernel⟩, List.mem_of_getElem? (i := 31) (by decide +kernel), List.mem_of_getElem? (i := 497) (by decide +kernel), List.mem_of_getElem? (i := 498) (by decide +kernel)⟩
theorem lw_p14 : lw_okq (⟨"Bandwidthclub", "leftBeside", "(I[I)I"⟩, 6) := ⟨⟨by decide +kernel, by decide +kernel⟩, List.mem_of_getElem? (i := 31) (by decide +kernel), List.mem_of_getElem? (i := 501) (by decide +kernel), List.mem_of_getElem? (i := 502) (by decide +kernel)⟩
theorem lw_p15 : lw_okq (⟨"Bandwidthclub", "leftOfAll", "()I"⟩, 6) := ⟨⟨by decide +kernel, by decide +kernel⟩, List.mem_of_getElem? (i := 31) (by decide +kernel), List.mem_of_getElem? (i := 509) (by decide +kernel), List.mem_of_getElem? (i := 510) (by decide +kernel)⟩
def lw_privs_1 : List (MethodName × Nat) := [(⟨"java/lang/Throwable", "fillInStackTrace", "(I)Ljava/lang/Throwable;"⟩, 6), (⟨"java/util/ArrayList", "add", "(Ljava/lang/Object;[Ljava/lang/Object;I)V"⟩, 3), (⟨"java/util/ArrayList", "grow", "()[Ljava/lang/Object;"⟩, 3), (⟨"java/util/ArrayList", "grow", "(I)[Ljava/lang/Object;"⟩, 3), (⟨"Bandwidthclub", "memberInClub", "(I)LBandwidthclub$Member;"⟩, 6), (⟨"Bandwidthclub", "memberAt", "(I)LBandwidthclub$Member;"⟩, 6), (⟨"Bandwidthclub", "keepInLog", "(LBandwidthclub$Entry;)V"⟩, 6), (⟨"Bandwidthclub", "enter", "(LBandwidthclub$Entry;LBandwidthclub$Book;)V"⟩, 6), (⟨"Bandwidthclub", "costOf", "(LBandwidthclub$Entry;)I"⟩, 6), (⟨"Bandwidthclub", "valueIn", "(II)I"⟩, 6), (⟨"Bandwidthclub", "countInClub", "()I"⟩, 6), (⟨"Bandwidthclub", "filmAt", "(I)LBandwidthclub$Film;"⟩, 6), (⟨"Bandwidthclub", "planFetch", "(LBandwidthclub$Member;II)LBandwidthclub$Entry;"⟩, 6), (⟨"Bandwidthclub", "withMostLeft", "(I[I)I"⟩, 6), (⟨"Bandwidthclub", "leftBeside", "(I[I)I"⟩, 6), (⟨"Bandwidthclub", "leftOfAll", "()I"⟩, 6)]
theorem lw_r1 : ∀ q ∈ lw_privs_1, lw_okq q := List.forall_mem_cons.mpr ⟨lw_p0, List.forall_mem_cons.mpr ⟨lw_p1, List.forall_mem_cons.mpr ⟨lw_p2, List.forall_mem_cons.mpr ⟨lw_p3, List.forall_mem_cons.mpr ⟨lw_p4, List.forall_mem_cons.mpr ⟨lw_p5, List.forall_mem_cons.mpr ⟨lw_p6, List.forall_mem_cons.mpr ⟨lw_p7, List.forall_mem_cons.mpr ⟨lw_p8, List.forall_mem_cons.mpr ⟨lw_p9, List.forall_mem_cons.mpr ⟨lw_p10, List.forall_mem_cons.mpr ⟨lw_p11, List.forall_mem_cons.mpr ⟨lw_p12, List.forall_mem_cons.mpr ⟨lw_p13, List.forall_mem_cons.mpr ⟨lw_p14, List.forall_mem_cons.mpr ⟨lw_p15, fun _ h => absurd h List.not_mem_nil⟩⟩⟩⟩⟩⟩⟩⟩⟩⟩⟩⟩⟩⟩⟩⟩
theorem lw_p16 : lw_okq (⟨"Bandwidthclub", "planFromOutside", "(LBandwidthclub$Member;I)LBandwidthclub$Entry;"⟩, 6) := ⟨⟨by decide +kernel, by decide +kernel⟩, List.mem_of_getElem? (i := 31) (by decide +kernel), List.mem_of_getElem? (i := 514) (by decide +kernel), List.mem_of_getElem? (i := 515) (by decide +kernel)⟩
theorem lw_p17 : lw_okq (⟨"Bandwidthclub", "useLines", "([I)V"⟩, 6) := ⟨⟨by decide +kernel, by decide +kernel⟩, List.mem_of_getElem? (i := 31) (by decide +kernel), List.mem_of_getElem? (i := 519) (by decide +kernel), List.mem_of_getElem? (i := 520) (by decide +kernel)⟩
theorem lw_p18 : lw_okq (⟨"Bandwidthclub", "putIntoCache", "(LBandwidthclub$Member;ILBandwidthclub$Film;)V"⟩, 6) := ⟨⟨by decide +kernel, by decide +kernel⟩, List.mem_of_getElem? (i := 31) (by decide +kernel), List.mem_of_getElem? (i := 523) (by decide +kernel), List.mem_of_getElem? (i := 524) (by decide +kernel)⟩
theorem lw_p19 : lw_okq (⟨"Bandwidthclub", "cachedUnits", "(LBandwidthclub$Member;I)I"⟩, 6) := ⟨⟨by decide +kernel, by decide +kernel⟩, List.mem_of_getElem? (i := 31) (by decide +kernel), List.mem_of_getElem? (i := 527) (by decide +kernel), List.mem_of_getElem? (i := 528) (by decide +kernel)⟩
theorem lw_p20 : lw_okq (⟨"Bandwidthclub", "leastWorthOf", "(LBandwidthclub$Member;)I"⟩, 6) := ⟨⟨by decide +kernel, by decide +kernel⟩, List.mem_of_getElem? (i := 31) (by decide +kernel), List.mem_of_getElem? (i := 531) (by decide +kernel), List.mem_of_getElem? (i := 532) (by decide +kernel)⟩
theorem lw_p21 : lw_okq (⟨"Bandwidthclub", "checkRule", "(I)V"⟩, 6) := ⟨⟨by decide +kernel, by decide +kernel⟩, List.mem_of_getElem? (i := 31) (by decide +kernel), List.mem_of_getElem? (i := 559) (by decide +kernel), List.mem_of_getElem? (i := 560) (by decide +kernel)⟩
theorem lw_p22 : lw_okq (⟨"Bandwidthclub", "proposalAt", "(I)LBandwidthclub$Proposal;"⟩, 6) := ⟨⟨by decide +kernel, by decide +kernel⟩, List.mem_of_getElem? (i := 31) (by decide +kernel), List.mem_of_getElem? (i := 598) (by decide +kernel), List.mem_of_getElem? (i := 599) (by decide +kernel)⟩
theorem lw_p23 : lw_okq (⟨"Bandwidthclub", "checkWhat", "(I)V"⟩, 6) := ⟨⟨by decide +kernel, by decide +kernel⟩, List.mem_of_getElem? (i := 31) (by decide +kernel), List.mem_of_getElem? (i := 618) (by decide +kernel), List.mem_of_getElem? (i := 619) (by decide +kernel)⟩
theorem lw_p24 : lw_okq (⟨"Bandwidthclub", "bookAnew", "(I)LBandwidthclub$Book;"⟩, 6) := ⟨⟨by decide +kernel, by decide +kernel⟩, List.mem_of_getElem? (i := 31) (by decide +kernel), List.mem_of_getElem? (i := 664) (by decide +kernel), List.mem_of_getElem? (i := 665) (by decide +kernel)⟩
theorem lw_p25 : lw_okq (⟨"Bandwidthclub", "tellMember", "(LBandwidthclub$Member;Ljava/lang/StringBuilder;)V"⟩, 6) := ⟨⟨by decide +kernel, by decide +kernel⟩, List.mem_of_getElem? (i := 31) (by decide +kernel), List.mem_of_getElem? (i := 722) (by decide +kernel), List.mem_of_getElem? (i := 723) (by decide +kernel)⟩
theorem lw_p26 : lw_okq (⟨"BandwidthclubModel", "refused", "(I)Z"⟩, 23) := ⟨⟨by decide +kernel, by decide +kernel⟩, List.mem_of_getElem? (i := 819) (by decide +kernel), List.mem_of_getElem? (i := 906) (by decide +kernel), List.mem_of_getElem? (i := 907) (by decide +kernel)⟩
theorem lw_p27 : lw_okq (⟨"BandwidthclubModel", "isMember", "(I)Z"⟩, 23) := ⟨⟨by decide +kernel, by decide +kernel⟩, List.mem_of_getElem? (i := 819) (by decide +kernel), List.mem_of_getElem? (i := 914) (by decide +kernel), List.mem_of_getElem? (i := 915) (by decide +kernel)⟩
theorem lw_p28 : lw_okq (⟨"BandwidthclubModel", "decide", "(I)V"⟩, 23) := ⟨⟨by decide +kernel, by decide +kernel⟩, List.mem_of_getElem? (i := 819) (by decide +kernel), List.mem_of_getElem? (i := 918) (by decide +kernel), List.mem_of_getElem? (i := 919) (by decide +kernel)⟩
theorem lw_p29 : lw_okq (⟨"BandwidthclubModel", "voted", "(II)I"⟩, 23) := ⟨⟨by decide +kernel, by decide +kernel⟩, List.mem_of_getElem? (i := 819) (by decide +kernel), List.mem_of_getElem? (i := 922) (by decide +kernel), List.mem_of_getElem? (i := 923) (by decide +kernel)⟩
theorem lw_p30 : lw_okq (⟨"BandwidthclubModel", "many", "()I"⟩, 23) := ⟨⟨by decide +kernel, by decide +kernel⟩, List.mem_of_getElem? (i := 819) (by decide +kernel), List.mem_of_getElem? (i := 926) (by decide +kernel), List.mem_of_getElem? (i := 927) (by decide +kernel)⟩
theorem lw_p31 : lw_okq (⟨"BandwidthclubModel", "isFilm", "(I)Z"⟩, 23) := ⟨⟨by decide +kernel, by decide +kernel⟩, List.mem_of_getElem? (i := 819) (by decide +kernel), List.mem_of_getElem? (i := 938) (by decide +kernel), List.mem_of_getElem? (i := 939) (by decide +kernel)⟩
def lw_privs_2 : List (MethodName × Nat) := [(⟨"Bandwidthclub", "planFromOutside", "(LBandwidthclub$Member;I)LBandwidthclub$Entry;"⟩, 6), (⟨"Bandwidthclub", "useLines", "([I)V"⟩, 6), (⟨"Bandwidthclub", "putIntoCache", "(LBandwidthclub$Member;ILBandwidthclub$Film;)V"⟩, 6), (⟨"Bandwidthclub", "cachedUnits", "(LBandwidthclub$Member;I)I"⟩, 6), (⟨"Bandwidthclub", "leastWorthOf", "(LBandwidthclub$Member;)I"⟩, 6), (⟨"Bandwidthclub", "checkRule", "(I)V"⟩, 6), (⟨"Bandwidthclub", "proposalAt", "(I)LBandwidthclub$Proposal;"⟩, 6), (⟨"Bandwidthclub", "checkWhat", "(I)V"⟩, 6), (⟨"Bandwidthclub", "bookAnew", "(I)LBandwidthclub$Book;"⟩, 6), (⟨"Bandwidthclub", "tellMember", "(LBandwidthclub$Member;Ljava/lang/StringBuilder;)V"⟩, 6), (⟨"BandwidthclubModel", "refused", "(I)Z"⟩, 23), (⟨"BandwidthclubModel", "isMember", "(I)Z"⟩, 23), (⟨"BandwidthclubModel", "decide", "(I)V"⟩, 23), (⟨"BandwidthclubModel", "voted", "(II)I"⟩, 23), (⟨"BandwidthclubModel", "many", "()I"⟩, 23), (⟨"BandwidthclubModel", "isFilm", "(I)Z"⟩, 23)]
theorem lw_r2 : ∀ q ∈ lw_privs_2, lw_okq q := List.forall_mem_cons.mpr ⟨lw_p16, List.forall_mem_cons.mpr ⟨lw_p17, List.forall_mem_cons.mpr ⟨lw_p18, List.forall_mem_cons.mpr ⟨lw_p19, List.forall_mem_cons.mpr ⟨lw_p20, List.forall_mem_cons.mpr ⟨lw_p21, List.forall_mem_cons.mpr ⟨lw_p22, List.forall_mem_cons.mpr ⟨lw_p23, List.forall_mem_cons.mpr ⟨lw_p24, List.forall_mem_cons.mpr ⟨lw_p25, List.forall_mem_cons.mpr ⟨lw_p26, List.forall_mem_cons.mpr ⟨lw_p27, List.forall_mem_cons.mpr ⟨lw_p28, List.forall_mem_cons.mpr ⟨lw_p29, List.forall_mem_cons.mpr ⟨lw_p30, List.forall_mem_cons.mpr ⟨lw_p31, fun _ h => absurd h List.not_mem_nil⟩⟩⟩⟩⟩⟩⟩⟩⟩⟩⟩⟩⟩⟩⟩⟩
theorem lw_p32 : lw_okq (⟨"BandwidthclubModel", "most", "(II)I"⟩, 23) := ⟨⟨by decide +kernel, by decide +kernel⟩, List.mem_of_getElem? (i := 819) (by decide +kernel), List.mem_of_getElem? (i := 942) (by decide +kernel), List.mem_of_getElem? (i := 943) (by decide +kernel)⟩
theorem lw_p33 : lw_okq (⟨"BandwidthclubModel", "all", "()I"⟩, 23) := ⟨⟨by decide +kernel, by decide +kernel⟩, List.mem_of_getElem? (i := 819) (by decide +kernel), List.mem_of_getElem? (i := 946) (by decide +kernel), List.mem_of_getElem? (i := 947) (by decide +kernel)⟩
theorem lw_p34 : lw_okq (⟨"BandwidthclubModel", "valueOf", "(I)I"⟩, 23) := ⟨⟨by decide +kernel, by decide +kernel⟩, List.mem_of_getElem? (i := 819) (by decide +kernel), List.mem_of_getElem? (i := 950) (by decide +kernel), List.mem_of_getElem? (i := 951) (by decide +kernel)⟩
theorem lw_p35 : lw_okq (⟨"BandwidthclubModel", "price", "()I"⟩, 23) := ⟨⟨by decide +kernel, by decide +kernel⟩, List.mem_of_getElem? (i := 819) (by decide +kernel), List.mem_of_getElem? (i := 954) (by decide +kernel), List.mem_of_getElem? (i := 955) (by decide +kernel)⟩
theorem lw_p36 : lw_okq (⟨"BandwidthclubModel", "bring", "(II)V"⟩, 23) := ⟨⟨by decide +kernel, by decide +kernel⟩, List.mem_of_getElem? (i := 819) (by decide +kernel), List.mem_of_getElem? (i := 958) (by decide +kernel), List.mem_of_getElem? (i := 959) (by decide +kernel)⟩
theorem lw_p37 : lw_okq (⟨"BandwidthclubModel", "owe", "(III)V"⟩, 23) := ⟨⟨by decide +kernel, by decide +kernel⟩, List.mem_of_getElem? (i := 819) (by decide +kernel), List.mem_of_getElem? (i := 962) (by decide +kernel), List.mem_of_getElem? (i := 963) (by decide +kernel)⟩
theorem lw_p38 : lw_okq (⟨"BandwidthclubModel", "put", "(II)V"⟩, 23) := ⟨⟨by decide +kernel, by decide +kernel⟩, List.mem_of_getElem? (i := 819) (by decide +kernel), List.mem_of_getElem? (i := 966) (by decide +kernel), List.mem_of_getElem? (i := 967) (by decide +kernel)⟩
theorem lw_p39 : lw_okq (⟨"BandwidthclubModel", "used", "(I)I"⟩, 23) := ⟨⟨by decide +kernel, by decide +kernel⟩, List.mem_of_getElem? (i := 819) (by decide +kernel), List.mem_of_getElem? (i := 970) (by decide +kernel), List.mem_of_getElem? (i := 971) (by decide +kernel)⟩
theorem lw_p40 : lw_okq (⟨"BandwidthclubModel", "least", "(III)I"⟩, 23) := ⟨⟨by decide +kernel, by decide +kernel⟩, List.mem_of_getElem? (i := 819) (by decide +kernel), List.mem_of_getElem? (i := 974) (by decide +kernel), List.mem_of_getElem? (i := 975) (by decide +kernel)⟩
theorem lw_p41 : lw_okq (⟨"BandwidthclubModel", "isProposal", "(I)Z"⟩, 23) := ⟨⟨by decide +kernel, by decide +kernel⟩, List.mem_of_getElem? (i := 819) (by decide +kernel), List.mem_of_getElem? (i := 993) (by decide +kernel), List.mem_of_getElem? (i := 994) (by decide +kernel)⟩
def lw_privs_3 : List (MethodName × Nat) := [(⟨"BandwidthclubModel", "most", "(II)I"⟩, 23), (⟨"BandwidthclubModel", "all", "()I"⟩, 23), (⟨"BandwidthclubModel", "valueOf", "(I)I"⟩, 23), (⟨"BandwidthclubModel", "price", "()I"⟩, 23), (⟨"BandwidthclubModel", "bring", "(II)V"⟩, 23), (⟨"BandwidthclubModel", "owe", "(III)V"⟩, 23), (⟨"BandwidthclubModel", "put", "(II)V"⟩, 23), (⟨"BandwidthclubModel", "used", "(I)I"⟩, 23), (⟨"BandwidthclubModel", "least", "(III)I"⟩, 23), (⟨"BandwidthclubModel", "isProposal", "(I)Z"⟩, 23)]
theorem lw_r3 : ∀ q ∈ lw_privs_3, lw_okq q := List.forall_mem_cons.mpr ⟨lw_p32, List.forall_mem_cons.mpr ⟨lw_p33, List.forall_mem_cons.mpr ⟨lw_p34, List.forall_mem_cons.mpr ⟨lw_p35, List.forall_mem_cons.mpr ⟨lw_p36, List.forall_mem_cons.mpr ⟨lw_p37, List.forall_mem_cons.mpr ⟨lw_p38, List.forall_mem_cons.mpr ⟨lw_p39, List.forall_mem_cons.mpr ⟨lw_p40, List.forall_mem_cons.mpr ⟨lw_p41, fun _ h => absurd h List.not_mem_nil⟩⟩⟩⟩⟩⟩⟩⟩⟩⟩
def lw_privs : List (MethodName × Nat) := lw_privs_1 ++ (lw_privs_2 ++ (lw_privs_3))
def lw_tbl : List Cond := k2_sels lw_privs ++ tables_1
theorem lw_privs_ok : ∀ q ∈ lw_privs, lw_okq q := by
  show ∀ q ∈ lw_privs_1 ++ (lw_privs_2 ++ (lw_privs_3)), lw_okq q
  exact List.forall_mem_append.mpr ⟨lw_r1, List.forall_mem_append.mpr ⟨lw_r2, lw_r3⟩⟩
end
section
/-! ===== BEGIN words of one list among another's, by their places ===== -/
theorem goodIn_r {big : List Cond} (ws : List Cond) (ps : List Nat) (hp : ws = ps.filterMap (fun i => big[i]?)) (h : ws.all goodWord = true) : GoodIn big ws := by
  intro w hw
  have h1 := List.all_eq_true.mp h w hw
  rw [hp] at hw
  obtain ⟨i, -, hi⟩ := List.mem_filterMap.mp hw
  have hm : w ∈ big := by first | exact List.mem_of_getElem? hi | exact List.getElem?_mem hi
  exact ⟨hm, good_of_word h1⟩
theorem goodIn_app {big a b : List Cond} (ha : GoodIn big a) (hb : GoodIn big b) : GoodIn big (a ++ b) := fun w h => (List.mem_append.mp h).elim (ha w) (hb w)
theorem goodIn_ca {big a b : List Cond} {c : Cond} (ha : GoodIn big (c :: a)) (hb : GoodIn big b) : GoodIn big (c :: (a ++ b)) := fun w h => (List.mem_cons.mp h).elim (fun e => ha w (List.mem_cons.mpr (Or.inl e))) (fun h => (List.mem_append.mp h).elim (fun h => ha w (List.mem_cons.mpr (Or.inr h))) (hb w))
theorem goodIn_sub {big ws : List Cond} (hm : ∀ w ∈ ws, w ∈ big) (h : ws.all goodWord = true) : GoodIn big ws := fun w hw => ⟨hm w hw, good_of_word (List.all_eq_true.mp h w hw)⟩
/-! ===== END ===== -/

/-! ===== BEGIN exceptions that leave a method, and their catching by the caller (launches without stack traces) ===== -/
section VXA
/-! The laws vx_back, vx_callV, vx_callS, vx_callSW, vx_throw0, vx_throwS follow proofs of the library, with one case more: JvmDerived/Free/Laws.lean (Back.of_free), Shelf42/LK1.lean (callV, callS), Shelf/KitTraced.lean (throwNew0V, throwNewS). -/
/-- where a method has thrown q: the class by its name, the cell, what was written, the world -/
def vx_T (XC : String → State → State → Prop) (st : State) (q : Addr) (t : State) (mc ms : Nat) (free : Addr → Prop) : Prop :=
  ∃ (E : String) (ce : Cell) (L : List Loc), XC E st t ∧ t.heap[q]? = some ce ∧ ce.vm = .none ∧ st.vm.findClass E = some ce.cls ∧ st.WarmedH t.vm ∧ st.sameButNew ({ t with vm := st.vm } : State) L mc ms ∧ ∀ z ∈ L, free z.base
def vx_Q (Qc : Array Value → State → Outcome → State → Prop) (XC : String → State → State → Prop) (mc ms : Nat) (free : Addr → Prop) : Array Value → State → Outcome → State → Prop := fun a st o t =>
  (Qc a st o t ∧ ∃ L, FrameEnd st o t L mc ms ∧ ∀ q ∈ L, free q.base) ∨ ∃ q, o = .threw q ∧ vx_T XC st q t mc ms free
/-- a callee that returns or throws -/
def vx_Met (l : Launch) (y : MethodName) (ws : List Cond) (rm : Room) (Pc : Array Value → State → Prop) (Qc : Array Value → State → Outcome → State → Prop) (XC : String → State → State → Prop) (mc ms : Nat) (free : Addr → Prop) : Prop :=
  MetFree l y (headSpec ws rm) Pc (fun _ _ _ _ _ => True) (vx_Q Qc XC mc ms free)
def vx_Post (XC : String → State → State → Prop) (mc ms : Nat) (free : Addr → Prop) : Pt → Array Value → Addr → Pt → Prop := fun A a q B =>
  ∃ (g : JFrame) (mk : MethodId) (t : State) (L : List Loc) (E : String) (ce : Cell), B.U.heap = t.heap ∧ B.U.vm = t.vm ∧ XC E (A.U.calling g mk a) t ∧ t.heap[q]? = some ce ∧ ce.vm = .none ∧ A.U.vm.findClass E = some ce.cls ∧ B.locs = A.locs ++ L ∧ (∀ z ∈ L, free z.base) ∧ B.cells = A.cells + mc ∧ B.slots = A.slots + ms
def vx_Back (l : Launch) (R : Room) (p : Program) (e : Env) (below : List Frame) (s : State) (sargs : Array Value) (y : MethodName) (len W9 : Nat)
    (Pre : Pt → Array Value → Prop) (Post : Pt → Array Value → Option Value → Pt → Prop) (PostX : Pt → Array Value → Addr → Pt → Prop) : Prop :=
  ∀ (m : MethodId) (meth : Method) (c : Code) (A : Pt) (g : JFrame) (ig : Instr) (mk : MethodId) (a : Array Value),
    Stand p l e R s m sargs below meth c A.U A.locs A.cells A.slots → g.method = m → g.locals.size = c.maxLocals → decode c.code g.pc = .ok (ig, len) →
    2 * g.monitorRoom + (g.stack.map fun v => v.category).sum ≤ W9 → A.U.methodNamed? y = some mk → Pre A a →
    (∃ (v : Option Value) (B : Pt), Stand p l e R s m sargs below meth c B.U B.locs B.cells B.slots ∧ Post A a v B ∧
      Steps p.tables e below (doInvoke e (A.U.setTop g) [] mk a).1 (B.U.setTop { g with pc := g.pc + len, stack := v.toList ++ g.stack })) ∨
    (∃ (q : Addr) (B : Pt), Stand p l e R s m sargs below meth c B.U B.locs B.cells B.slots ∧ PostX A a q B ∧
      Steps p.tables e below (doInvoke e (A.U.setTop g) [] mk a).1 ((B.U.setTop g).pushFrame (.throwing q)))
section Payer
variable {l : Launch} {R : Room} {p : Program} {e : Env} {below : List Frame} {s : State} {sargs : Array Value} {y : MethodName} {len W9 : Nat}
theorem vx_back {ws : List Cond} {rm : Room} {Pc : Array Value → State → Prop} {Qc : Array Value → State → Outcome → State → Prop} {XC : String → State → State → Prop} {mc ms : Nat} {free : Addr → Prop} {bytes : ByteArray} {maxL : Nat} {ret : Option FieldType}
    (hM : vx_Met l y ws rm Pc Qc XC mc ms free) (hblind : FrameBlind Pc) (hrc : rm.cells = mc) (hrs : rm.slots = ms)
    (hframes : rm.frames + 1 ≤ R.frames) (hlocals : W9 + (maxL + 11) + rm.locals ≤ R.locals)
    (hws : ∀ w ∈ ws, ∀ a' U, s.WarmedH U.vm → w.before a' U = true) (hcode : Cond.code y bytes maxL ret ∈ ws) (hinit : ∀ a' U, s.WarmedH U.vm → (Cond.initialized y.cls).before a' U = true) :
    vx_Back l R p e below s sargs y len W9 (PreOf R mc ms Pc) (PostOf Qc mc ms free) (vx_Post XC mc ms free) := by
  intro m meth c A g ig mk a X hg hsize hdg hW hn hp
  have h1 : (headSpec ws rm).pre.before a A.U = true := atoms_intro fun w hw => hws w hw _ _ X.warmed
  have h2 : (Cond.code y bytes maxL ret).before a A.U = true := hws _ hcode _ _ X.warmed
  have h3 : (Cond.initialized y.cls).before a A.U = true := hinit _ _ X.warmed
  have h4 : A.cells + (headSpec ws rm).room.cells ≤ R.cells := by rw [show (headSpec ws rm).room.cells = mc from hrc]; exact hp.1
  have h5 : A.slots + (headSpec ws rm).room.slots ≤ R.slots := by rw [show (headSpec ws rm).room.slots = ms from hrs]; exact hp.2.1
  have hPc : Pc a (A.U.calling g mk a) := hblind _ _ _ _ hp.2.2
  obtain ⟨U, Ls, c0, s0⟩ := A
  dsimp only [Pt.U, Pt.locs, Pt.cells, Pt.slots] at h1 h2 h3 h4 h5 X hn hPc ⊢
  obtain ⟨methY, cY, hmY, hcY, -, hlY, -, -, -, -⟩ := Cond.code_spec hn h2
  obtain ⟨kY, hkY, -⟩ := className_of_methodNamed hn
  have hinitY : kY.init = .initialized := Cond.initialized_spec (findClass_of_methodNamed hn) hkY h3
  have h : At U g.method c below := by rw [hg]; exact X.here
  have hlocals9 : W9 + (maxL + 11) + (headSpec ws rm).room.locals ≤ R.locals := hlocals
  have happ : (headSpec ws rm).appliesLoose y e.platform (U.calling g mk a) = true :=
    Spec.appliesLoose_calling (g := g) h hdg hn hkY hinitY
      (X.room_calling (g := g) (R' := (headSpec ws rm).room) hsize hmY hcY hframes (by rw [hlY]; omega) h4 h5) h1
  obtain ⟨mid, hmid⟩ := h.above
  have hfr : (U.setTop g).frames = (.java g :: mid) ++ below := by rw [State.frames_setTop' g h.top, hmid]; rfl
  obtain ⟨o, s₂, hsteps, -, hend, hq⟩ := Steps.callFree hM p X.admits X.cas X.clock (acts := []) hfr happ hPc trivial
  have hq' : vx_Q Qc XC mc ms free a (U.calling g mk a) o s₂ := hq
  rw [State.frames_setTop' g h.top] at hend
  obtain ⟨g₀, hg0⟩ := Option.isSome_iff_exists.mp h.top
  obtain ⟨r, hr⟩ := State.topJava?_eq_some.mp hg0
  have hr' : (({ U with heap := s₂.heap, slotsUsed := s₂.slotsUsed } : State).setVm s₂.vm).frames = .java g₀ :: r := hr
  rcases hq' with ⟨hqc, L, hfe, hL⟩ | ⟨q, rfl, E, ce, L, hx, hce, hcv, hcl, hW₂, hsm, hL⟩
  · obtain ⟨⟨v, rfl⟩, hW₂, e2, q2, q3, q4, q5, q6⟩ := id hfe
    have e3 : s₂ = ({ (U.calling g mk a).setFrames s₂.frames with heap := s₂.heap, slotsUsed := s₂.slotsUsed } : State).setVm s₂.vm := by
      have : s₂ = ({ s₂ with vm := (U.calling g mk a).vm } : State).setVm s₂.vm := rfl
      rw [e2] at this
      exact this
    obtain ⟨c₂, i₂, len₂, hc₂, hd₂, hf₂⟩ := hend
    have hW' : U.WarmedH s₂.vm := hW₂
    have hcc : c₂ = c := by
      have h1 : s₂.code? g.method = U.code? g.method := by
        rw [State.code?_eq, State.code?_eq, hW'.alike.method?]
      exact Option.some.inj (hc₂.symm.trans (h1.trans h.code))
    subst hcc
    have hlen : len₂ = len := by rw [hdg] at hd₂; cases hd₂; rfl
    subst hlen
    have hs₂ : s₂ = (({ U with heap := s₂.heap, slotsUsed := s₂.slotsUsed } : State).setVm s₂.vm).setTop { g with pc := g.pc + len₂, stack := v.toList ++ g.stack } := by
      refine e3.trans ?_
      rw [hf₂, State.calling_eq h.top, State.setFrames_setFrames, State.setTop_of_frames _ hr', hr]
      rfl
    have hsame : U.sameButNew ({ U with heap := s₂.heap, slotsUsed := s₂.slotsUsed } : State) L mc ms := by
      refine ⟨?_, q2, q3, q4, q5, q6⟩
      obtain ⟨t, ht, -⟩ := State.frames_cons hr
      show ({ U with heap := s₂.heap, slotsUsed := s₂.slotsUsed } : State) = { U.setFrames U.frames with heap := s₂.heap, slotsUsed := s₂.slotsUsed }
      rw [State.setFrames_self ht]
    subst hg
    refine Or.inl ⟨v, ⟨(({ U with heap := s₂.heap, slotsUsed := s₂.slotsUsed } : State).setVm s₂.vm), Ls ++ L, c0 + mc, s0 + ms⟩,
      ⟨X.admits, X.cas, X.clock, X.frames, X.room, X.hears, X.method, X.code, (X.here.setHeapUsed s₂.heap s₂.slotsUsed).setVm hW'.alike, X.tail, State.WarmedH.trans X.warmed hW', X.limits, X.bytes, X.same.trans (hsame.setVm s.vm)⟩,
      ⟨g, mk, s₂, L, rfl, rfl, hqc, rfl, hL, rfl, rfl⟩, ?_⟩
    show Steps p.tables e below _ ((({ U with heap := s₂.heap, slotsUsed := s₂.slotsUsed } : State).setVm s₂.vm).setTop { g with pc := g.pc + len₂, stack := v.toList ++ g.stack })
    rw [← hs₂]
    exact hsteps
  · obtain ⟨e2, q2, q3, q4, q5, q6⟩ := id hsm
    have e3 : s₂ = ({ (U.calling g mk a).setFrames s₂.frames with heap := s₂.heap, slotsUsed := s₂.slotsUsed } : State).setVm s₂.vm := by
      have : s₂ = ({ s₂ with vm := (U.calling g mk a).vm } : State).setVm s₂.vm := rfl
      rw [e2] at this
      exact this
    have hf₂ : s₂.frames = .throwing q :: .java g :: U.frames.tail := hend
    have hW' : U.WarmedH s₂.vm := hW₂
    have hs₂ : s₂ = ((({ U with heap := s₂.heap, slotsUsed := s₂.slotsUsed } : State).setVm s₂.vm).setTop g).pushFrame (.throwing q) := by
      refine e3.trans ?_
      rw [hf₂, State.calling_eq h.top, State.setFrames_setFrames, State.pushFrame, State.frames_setTop _ hr', State.setTop_of_frames _ hr', State.setFrames_setFrames, hr]
      rfl
    have hsame : U.sameButNew ({ U with heap := s₂.heap, slotsUsed := s₂.slotsUsed } : State) L mc ms := by
      refine ⟨?_, q2, q3, q4, q5, q6⟩
      obtain ⟨t, ht, -⟩ := State.frames_cons hr
      show ({ U with heap := s₂.heap, slotsUsed := s₂.slotsUsed } : State) = { U.setFrames U.frames with heap := s₂.heap, slotsUsed := s₂.slotsUsed }
      rw [State.setFrames_self ht]
    subst hg
    refine Or.inr ⟨q, ⟨(({ U with heap := s₂.heap, slotsUsed := s₂.slotsUsed } : State).setVm s₂.vm), Ls ++ L, c0 + mc, s0 + ms⟩,
      ⟨X.admits, X.cas, X.clock, X.frames, X.room, X.hears, X.method, X.code, (X.here.setHeapUsed s₂.heap s₂.slotsUsed).setVm hW'.alike, X.tail, State.WarmedH.trans X.warmed hW', X.limits, X.bytes, X.same.trans (hsame.setVm s.vm)⟩,
      ⟨g, mk, s₂, L, E, ce, rfl, rfl, hx, hce, hcv, hcl, rfl, hL, rfl, rfl⟩, ?_⟩
    show Steps p.tables e below _ (((({ U with heap := s₂.heap, slotsUsed := s₂.slotsUsed } : State).setVm s₂.vm).setTop g).pushFrame (.throwing q))
    rw [← hs₂]
    exact hsteps
end Payer
section Calls
variable {p : Program} {l : Launch} {e : Env} {R : Room} {s : State} {m : MethodId} {args : Array Value} {below : List Frame} {meth : Method} {c : Code} {T : State} {locs : List Loc} {cells slots : Nat}
theorem vx_callV (X : Stand p l e R s m args below meth c T locs cells slots) (hexec : p.tables.exec = Jvm.exec) {own C : String} {index : Nat} {y : MethodName} {bytes : ByteArray} {maxL : Nat} {ret : Option FieldType}
    (hown : s.vm.findClass own = some m.cls) (hlink : (Cond.methodLink own index y).before args s = true) (hinst : (Cond.instanceMethod y).before args s = true) (hsel : (Cond.selects C y y).before args s = true)
    (hcode : (Cond.code y bytes maxL ret).before args s = true) (hy : y.cls ≠ "java/lang/invoke/MethodHandle" ∧ y.cls ≠ "java/lang/invoke/VarHandle")
    {W9 : Nat} {Pre : Pt → Array Value → Prop} {Post : Pt → Array Value → Option Value → Pt → Prop} {PostX : Pt → Array Value → Addr → Pt → Prop} (hK : vx_Back l R p e below s args y 3 W9 Pre Post PostX)
    {b : Addr} {cellB : Cell} (hcell : T.heap[b]? = some cellB) (hobj : cellB.vm.isStatics = false) (hcls : s.vm.findClass C = some cellB.cls)
    {g : JFrame} (hg : g.method = m) (hsize : g.locals.size = c.maxLocals) {argsL rest : List Value} (hlen : ∀ sig, parseMethodDescriptor y.desc = some sig → argsL.length = sig.parameters.length)
    (hstack : g.stack = argsL.reverse ++ .ref b :: rest) (hW : 2 * g.monitorRoom + (rest.map fun v => v.category).sum ≤ W9) (hdg : decode c.code g.pc = .ok (.invokevirtual index, 3))
    (hpre : ∀ vm₁, s.WarmedH vm₁ → Pre ⟨T.setVm vm₁, locs, cells, slots⟩ (Value.ref b :: argsL).toArray) :
    (∃ (v : Option Value) (vm₁ : Vm) (B : Pt), s.WarmedH vm₁ ∧ Stand p l e R s m args below meth c B.U B.locs B.cells B.slots ∧ Post ⟨T.setVm vm₁, locs, cells, slots⟩ (Value.ref b :: argsL).toArray v B ∧
      ∀ target, Steps p.tables e below (B.U.setTop { g with pc := g.pc + 3, stack := v.toList ++ rest }) target → Steps p.tables e below (T.setTop g) target) ∨
    (∃ (q : Addr) (vm₁ : Vm) (B : Pt), s.WarmedH vm₁ ∧ Stand p l e R s m args below meth c B.U B.locs B.cells B.slots ∧ PostX ⟨T.setVm vm₁, locs, cells, slots⟩ (Value.ref b :: argsL).toArray q B ∧
      Steps p.tables e below (T.setTop g) ((B.U.setTop { g with stack := rest }).pushFrame (.throwing q))) := by
  obtain ⟨mk, methM, hnamed, hmethM, hstM, habM⟩ := Cond.instanceMethod_spec hinst
  obtain ⟨methM', cM, hmethM', -, -, -, -, -, -, hsigM⟩ := Cond.code_spec hnamed hcode
  cases hmethM.symm.trans hmethM'
  obtain ⟨c2, r2, m2, q1, q2, q3, q4, kP, hkP, hkPi⟩ := Cond.selects_spec hsel
  cases hcls.symm.trans q1
  cases (State.methodFound?_of_named hnamed hy).symm.trans q2
  cases hnamed.symm.trans q3
  have hselP : selectMethod e.platform s.vm cellB.cls mk = .method mk := by rw [Launch.admits_selectMethod X.admits]; exact q4
  obtain ⟨vm₁, X₁, hstep₁⟩ := X.invokevirtual hexec hown hlink hnamed hmethM hstM hkP hkPi hy (a := b) (cell := cellB) hcell
    (fun z h => by rw [h] at hobj; cases hobj) hselP hmethM habM hkP hkPi (g := g) hg (argsL := argsL) (rest := rest) (hlen _ hsigM) hstack hdg
  rcases hK m meth c ⟨T.setVm vm₁, locs, cells, slots⟩ { g with stack := rest } (.invokevirtual index) mk (Value.ref b :: argsL).toArray X₁ hg hsize hdg hW (X₁.named hnamed) (hpre vm₁ X₁.warmed) with ⟨v, B, X', hpost, hsteps⟩ | ⟨q, B, X', hpost, hsteps⟩
  · exact Or.inl ⟨v, vm₁, B, X₁.warmed, X', hpost, fun target h => hstep₁ _ fun acts => by rw [doInvoke_state]; exact hsteps.trans h⟩
  · exact Or.inr ⟨q, vm₁, B, X₁.warmed, X', hpost, hstep₁ _ fun acts => by rw [doInvoke_state]; exact hsteps⟩
theorem vx_callS (X : Stand p l e R s m args below meth c T locs cells slots) (hexec : p.tables.exec = Jvm.exec) {own : String} {index : Nat} {y : MethodName} {bytes : ByteArray} {maxL : Nat} {ret : Option FieldType}
    (hown : s.vm.findClass own = some m.cls) (hlink : (Cond.methodLink own index y).before args s = true) (hstat : (Cond.static y).before args s = true) (hinit : (Cond.initialized y.cls).before args s = true)
    (hcode : (Cond.code y bytes maxL ret).before args s = true) (hy : y.cls ≠ "java/lang/invoke/MethodHandle" ∧ y.cls ≠ "java/lang/invoke/VarHandle")
    {W9 : Nat} {Pre : Pt → Array Value → Prop} {Post : Pt → Array Value → Option Value → Pt → Prop} {PostX : Pt → Array Value → Addr → Pt → Prop} (hK : vx_Back l R p e below s args y 3 W9 Pre Post PostX)
    {g : JFrame} (hg : g.method = m) (hsize : g.locals.size = c.maxLocals) {argsL rest : List Value} (hlen : ∀ sig, parseMethodDescriptor y.desc = some sig → argsL.length = sig.parameters.length)
    (hstack : g.stack = argsL.reverse ++ rest) (hW : 2 * g.monitorRoom + (rest.map fun v => v.category).sum ≤ W9) (hdg : decode c.code g.pc = .ok (.invokestatic index, 3))
    (hpre : ∀ vm₁, s.WarmedH vm₁ → Pre ⟨T.setVm vm₁, locs, cells, slots⟩ argsL.toArray) :
    (∃ (v : Option Value) (vm₁ : Vm) (B : Pt), s.WarmedH vm₁ ∧ Stand p l e R s m args below meth c B.U B.locs B.cells B.slots ∧ Post ⟨T.setVm vm₁, locs, cells, slots⟩ argsL.toArray v B ∧
      ∀ target, Steps p.tables e below (B.U.setTop { g with pc := g.pc + 3, stack := v.toList ++ rest }) target → Steps p.tables e below (T.setTop g) target) ∨
    (∃ (q : Addr) (vm₁ : Vm) (B : Pt), s.WarmedH vm₁ ∧ Stand p l e R s m args below meth c B.U B.locs B.cells B.slots ∧ PostX ⟨T.setVm vm₁, locs, cells, slots⟩ argsL.toArray q B ∧
      Steps p.tables e below (T.setTop g) ((B.U.setTop { g with stack := rest }).pushFrame (.throwing q))) := by
  obtain ⟨mk, hnamed⟩ := Cond.code_named hcode
  obtain ⟨methM, cM, hmethM, -, -, -, -, -, -, hsigM⟩ := Cond.code_spec hnamed hcode
  have hstatic : methM.isStatic = true := Cond.static_spec hnamed hmethM hstat
  obtain ⟨kP, hkP, -⟩ := className_of_methodNamed hnamed
  have hinitP : kP.init = .initialized := Cond.initialized_spec (findClass_of_methodNamed hnamed) hkP hinit
  obtain ⟨vm₁, X₁, hstep₁⟩ := X.invokestatic hexec hown hlink hnamed hmethM hstatic hkP hinitP hy (g := g) hg (argsL := argsL) (rest := rest) (hlen _ hsigM) hstack hdg
  rcases hK m meth c ⟨T.setVm vm₁, locs, cells, slots⟩ { g with stack := rest } (.invokestatic index) mk argsL.toArray X₁ hg hsize hdg hW (X₁.named hnamed) (hpre vm₁ X₁.warmed) with ⟨v, B, X', hpost, hsteps⟩ | ⟨q, B, X', hpost, hsteps⟩
  · exact Or.inl ⟨v, vm₁, B, X₁.warmed, X', hpost, fun target h => hstep₁ _ fun acts => by rw [doInvoke_state]; exact hsteps.trans h⟩
  · exact Or.inr ⟨q, vm₁, B, X₁.warmed, X', hpost, hstep₁ _ fun acts => by rw [doInvoke_state]; exact hsteps⟩
end Calls
theorem vx_cls {s : State} {T : State} {vm₁ : Vm} {E : String} {k : ClassId} (hW : s.WarmedH vm₁) (h : (T.setVm vm₁).vm.findClass E = some k) : s.vm.findClass E = some k := by
  have h1 : vm₁.findClass E = some k := h
  rw [hW.alike.findClass] at h1
  exact h1
/-- the method's frame g, with q thrown over it -/
def vx_W (p : Program) (l : Launch) (e : Env) (R : Room) (s : State) (m : MethodId) (args : Array Value) (below : List Frame) (meth : Method) (c : Code) (H : Heap) (locs : List Loc) (cells slots : Nat) (Q : State → Prop) (g : JFrame) (q : Addr) : Prop :=
  ∀ T : State, T.heap = H → Stand p l e R s m args below meth c T locs cells slots → ∃ t, Steps p.tables e below ((T.setTop g).pushFrame (.throwing q)) t ∧ Q t
def vx_Run (p : Program) (l : Launch) (e : Env) (R : Room) (s : State) (m : MethodId) (args : Array Value) (below : List Frame) (meth : Method) (c : Code) (H : Heap) (locs : List Loc) (cells slots mc ms : Nat) (g : JFrame) (rest : List Value) (Qa : State → Outcome → State → Prop) (XC : String → State → State → Prop) (free : Addr → Prop) : Prop :=
  ∀ T : State, T.heap = H → Stand p l e R s m args below meth c T locs cells slots →
    (∃ (v : Option Value) (st₀ t T' : State) (L : List Loc), st₀.heap = H ∧ Stand p l e R s m args below meth c T' (locs ++ L) (cells + mc) (slots + ms) ∧ (∀ q ∈ L, free q.base) ∧ T'.heap = t.heap ∧ T'.vm = t.vm ∧ Qa st₀ (.returned v) t ∧
      Goes p e below T g T' { g with pc := g.pc + 3, stack := v.toList ++ rest }) ∨
    (∃ (q : Addr) (st₀ t T' : State) (L : List Loc) (E : String) (ce : Cell), st₀.heap = H ∧ Stand p l e R s m args below meth c T' (locs ++ L) (cells + mc) (slots + ms) ∧ (∀ z ∈ L, free z.base) ∧ T'.heap = t.heap ∧ T'.vm = t.vm ∧ XC E st₀ t ∧ t.heap[q]? = some ce ∧ ce.vm = .none ∧ s.vm.findClass E = some ce.cls ∧
      Steps p.tables e below (T.setTop g) ((T'.setTop { g with stack := rest }).pushFrame (.throwing q)))
def vx_X {S : Type} (px : S → Prop) (B : String → S → State → Prop) (A : Nat → Prop) : String → State → State → Prop := fun E st t => ∃ u : S, px u ∧ B E u t ∧ va_F A st t
section Runs
variable {p : Program} {l : Launch} {e : Env} {R : Room} {s : State} {m : MethodId} {args : Array Value} {below : List Frame} {meth : Method} {c : Code} {H : Heap} {locs : List Loc} {cells slots : Nat}
variable {y : MethodName} {bytes cc : ByteArray} {maxL nL mc ms n index : Nat} {ret : Option FieldType} {ws : List Cond} {rm : Room} {Pc : Array Value → State → Prop} {Qc : Array Value → State → Outcome → State → Prop} {XC : String → State → State → Prop} {free : Addr → Prop} {Ts : List Cond} {own C : String} {b : Addr} {As rest : List Value} {g : JFrame}
theorem vx_callBack (cb : CallB R s args own index y bytes maxL ret ws rm mc ms n) (hM : vx_Met l y ws rm Pc Qc XC mc ms free) (hbl : FrameBlind Pc) : vx_Back l R p e below s args y 3 8 (PreOf R mc ms Pc) (PostOf Qc mc ms free) (vx_Post XC mc ms free) := by
  obtain ⟨hrc, hrs, hfr, hlo, hws, hcw, -, hini, -⟩ := cb
  exact vx_back (bytes := bytes) (maxL := maxL) (ret := ret) hM hbl hrc hrs hfr hlo hws hcw (fun a' U hW => word_at hW (Or.inl (by first | rfl | simp [Cond.onTables, Cond.keeps, Cond.steady])) hini)
theorem vx_runV (S : CallFix p m c cc nL s args Ts own) (hM : vx_Met l y ws rm Pc Qc XC mc ms free) (cw : CallW R s args own C index y bytes maxL ret ws rm mc ms n) (hp : PreV s H C b Pc As)
    (hg : g.method = m) (hn : As.length = n) (hsize : g.locals.size = nL) (hstack : g.stack = As.reverse ++ .ref b :: rest) (hW : 2 * g.monitorRoom + (rest.map fun v => v.category).sum ≤ 8) (hdg : decode cc g.pc = .ok (.invokevirtual index, 3)) (hf : cells + mc ≤ R.cells ∧ slots + ms ≤ R.slots) :
    vx_Run p l e R s m args below meth c H locs cells slots mc ms g rest (Qc (Value.ref b :: As).toArray) XC free := by
  have hK : vx_Back l R p e below s args y 3 8 (PreOf R mc ms Pc) (PostOf Qc mc ms free) (vx_Post XC mc ms free) := vx_callBack cw.1 hM hp.1
  obtain ⟨⟨-, -, -, -, -, -, hcode, -, hy, hlen, hl⟩, hin, hse⟩ := cw
  obtain ⟨hx, hb, hml, ho, -⟩ := S
  obtain ⟨-, ⟨cellB, hcB, hoB, hclB⟩, hPc⟩ := hp
  intro T hT X
  rcases vx_callV X hx (C := C) (bytes := bytes) (maxL := maxL) (ret := ret) ho hl hin hse hcode hy hK (by rw [hT]; exact hcB) hoB hclB hg (hsize.trans hml.symm) (argsL := As) (rest := rest) (fun sig h => hn.trans (hlen sig h)) hstack hW (by rw [hb]; exact hdg)
    (fun vm₁ hW₁ => ⟨hf.1, hf.2, hPc (T.setVm vm₁) hT hW₁⟩) with ⟨v, vm₁, ⟨U', l2, c2, s2⟩, hW₁, X', ⟨g', mk, t, L, e1, e2, hq, h1, hL, h2, h3⟩, st⟩ | ⟨q, vm₁, ⟨U', l2, c2, s2⟩, hW₁, X', ⟨g', mk, t, L, E, ce, e1, e2, hq, hce, hcv, hcl, h1, hL, h2, h3⟩, st⟩
  · dsimp only [Pt.U, Pt.locs, Pt.cells, Pt.slots] at X' e1 e2 h1 h2 h3 st
    subst h1; subst h2; subst h3
    exact Or.inl ⟨v, (T.setVm vm₁).calling g' mk (Value.ref b :: As).toArray, t, U', L, hT, X', hL, e1, e2, hq, st⟩
  · dsimp only [Pt.U, Pt.locs, Pt.cells, Pt.slots] at X' e1 e2 h1 h2 h3 st hcl
    subst h1; subst h2; subst h3
    exact Or.inr ⟨q, (T.setVm vm₁).calling g' mk (Value.ref b :: As).toArray, t, U', L, E, ce, hT, X', hL, e1, e2, hq, hce, hcv, vx_cls hW₁ hcl, st⟩
theorem vx_runS (S : CallFix p m c cc nL s args Ts own) (hM : vx_Met l y ws rm Pc Qc XC mc ms free) (cw : CallB R s args own index y bytes maxL ret ws rm mc ms n ∧ (Cond.static y).before args s = true) (hp : PreS s H Pc As)
    (hg : g.method = m) (hn : As.length = n) (hsize : g.locals.size = nL) (hstack : g.stack = As.reverse ++ rest) (hW : 2 * g.monitorRoom + (rest.map fun v => v.category).sum ≤ 8) (hdg : decode cc g.pc = .ok (.invokestatic index, 3)) (hf : cells + mc ≤ R.cells ∧ slots + ms ≤ R.slots) :
    vx_Run p l e R s m args below meth c H locs cells slots mc ms g rest (Qc As.toArray) XC free := by
  have hK : vx_Back l R p e below s args y 3 8 (PreOf R mc ms Pc) (PostOf Qc mc ms free) (vx_Post XC mc ms free) := vx_callBack cw.1 hM hp.1
  obtain ⟨⟨-, -, -, -, -, -, hcode, hini, hy, hlen, hl⟩, hstt⟩ := cw
  obtain ⟨hx, hb, hml, ho, -⟩ := S
  intro T hT X
  rcases vx_callS X hx (bytes := bytes) (maxL := maxL) (ret := ret) ho hl hstt hini hcode hy hK hg (hsize.trans hml.symm) (argsL := As) (rest := rest) (fun sig h => hn.trans (hlen sig h)) hstack hW (by rw [hb]; exact hdg)
    (fun vm₁ hW₁ => ⟨hf.1, hf.2, hp.2 (T.setVm vm₁) hT hW₁⟩) with ⟨v, vm₁, ⟨U', l2, c2, s2⟩, hW₁, X', ⟨g', mk, t, L, e1, e2, hq, h1, hL, h2, h3⟩, st⟩ | ⟨q, vm₁, ⟨U', l2, c2, s2⟩, hW₁, X', ⟨g', mk, t, L, E, ce, e1, e2, hq, hce, hcv, hcl, h1, hL, h2, h3⟩, st⟩
  · dsimp only [Pt.U, Pt.locs, Pt.cells, Pt.slots] at X' e1 e2 h1 h2 h3 st
    subst h1; subst h2; subst h3
    exact Or.inl ⟨v, (T.setVm vm₁).calling g' mk As.toArray, t, U', L, hT, X', hL, e1, e2, hq, st⟩
  · dsimp only [Pt.U, Pt.locs, Pt.cells, Pt.slots] at X' e1 e2 h1 h2 h3 st hcl
    subst h1; subst h2; subst h3
    exact Or.inr ⟨q, (T.setVm vm₁).calling g' mk As.toArray, t, U', L, E, ce, hT, X', hL, e1, e2, hq, hce, hcv, vx_cls hW₁ hcl, st⟩
end Runs
section Rows
variable {p : Program} {l : Launch} {e : Env} {R : Room} {s : State} {m : MethodId} {args : Array Value} {below : List Frame} {meth : Method} {c : Code} {H : Heap} {locs : List Loc} {cells slots : Nat} {Q : State → Prop}
variable {mc ms : Nat} {free : Addr → Prop} {A0 A1 : Nat → Prop} {H0 : Heap} {a : Array Value} {pc : Nat} {ls : Array Slot} {st0 rest : List Value}
theorem vx_keep {st₀ t T' : State} {L : List Loc} (h0 : st₀.heap = H) (e1 : T'.heap = t.heap) (hS : va_S A0 H0 H locs) (hA : ∀ q, q < H.size → A1 q → A0 q) (hf : ∀ q, free q → A0 q) (hL : ∀ q ∈ L, free q.base) (hF : va_F A1 st₀ t) :
    H.size ≤ T'.heap.size ∧ (∀ q : Nat, q < H.size → ¬ A1 q → T'.heap[q]? = H[q]?) ∧ va_S A0 H0 T'.heap (locs ++ L) := by
  obtain ⟨hz, hk⟩ := hF
  rw [h0] at hz hk
  exact ⟨by rw [e1]; exact hz, fun q h1 h2 => by rw [e1]; exact hk q h1 h2,
    ⟨Nat.le_trans hS.1 (by rw [e1]; exact hz), fun q h1 h2 => by rw [e1, hk q (Nat.lt_of_lt_of_le h1 hS.1) (fun z => h2 (hA q (Nat.lt_of_lt_of_le h1 hS.1) z))]; exact hS.2.1 q h1 h2, fun q hq => by
      rcases List.mem_append.mp hq with h | h
      · exact hS.2.2 q h
      · exact hf _ (hL q h)⟩⟩
theorem vx_calli {S SX : Type} {post : Int32 → S → Prop} {px : SX → Prop} {B : S → State → Prop} {BX : String → SX → State → Prop} {AX : Nat → Prop} (hr : vx_Run p l e R s m args below meth c H locs cells slots mc ms (F0 m pc ls st0) rest (va_Qi post B A1 a) (vx_X px BX AX) free) (hS : va_S A0 H0 H locs) (hA : ∀ q, q < H.size → A1 q → A0 q) (hf : ∀ q, free q → A0 q) (hAX : ∀ q, q < H.size → AX q → A0 q)
    (kx : ∀ (E : String) (ce : Cell) (q9 : Addr) (u : SX) (t : State) (H1 : Heap) (locs1 : List Loc), t.heap = H1 → s.vm.Alike t.vm → px u → BX E u t → H.size ≤ H1.size → (∀ q : Nat, q < H.size → ¬ AX q → H1[q]? = H[q]?) → va_S A0 H0 H1 locs1 → H1[q9]? = some ce → ce.vm = .none → s.vm.findClass E = some ce.cls → vx_W p l e R s m args below meth c H1 locs1 (cells + mc) (slots + ms) Q (F0 m pc ls rest) q9)
    (kk : ∀ (r : Int32) (u : S) (t : State) (H1 : Heap) (locs1 : List Loc), t.heap = H1 → s.vm.Alike t.vm → post r u → B u t → H.size ≤ H1.size → (∀ q : Nat, q < H.size → ¬ A1 q → H1[q]? = H[q]?) → va_S A0 H0 H1 locs1 → W p l e R s m args below meth c H1 locs1 (cells + mc) (slots + ms) Q (F0 m (pc + 3) ls (.int r :: rest))) : W p l e R s m args below meth c H locs cells slots Q (F0 m pc ls st0) := by
  intro T hT X
  rcases hr T hT X with ⟨v, st₀, t, T', L, h0, X', hL, e1, e2, ⟨⟨r, u, hv, hp, hb⟩, hF⟩, st⟩ | ⟨q, st₀, t, T', L, E, ce, h0, X', hL, e1, e2, ⟨u, hp, hb, hF⟩, hce, hcv, hcl, st⟩
  · cases hv
    obtain ⟨k1, k2, k3⟩ := vx_keep h0 e1 hS hA hf hL hF
    obtain ⟨t2, a1, b1⟩ := kk r u t T'.heap (locs ++ L) e1.symm (by rw [← e2]; exact X'.warmed.alike) hp hb k1 k2 k3 T' rfl X'
    exact ⟨t2, st t2 a1, b1⟩
  · obtain ⟨k1, k2, k3⟩ := vx_keep h0 e1 hS hAX hf hL hF
    obtain ⟨t2, a1, b1⟩ := kx E ce q u t T'.heap (locs ++ L) e1.symm (by rw [← e2]; exact X'.warmed.alike) hp hb k1 k2 k3 (by rw [e1]; exact hce) hcv hcl T' rfl X'
    exact ⟨t2, st.trans a1, b1⟩
theorem vx_calll {S SX : Type} {post : Int64 → S → Prop} {px : SX → Prop} {B : S → State → Prop} {BX : String → SX → State → Prop} {AX : Nat → Prop} (hr : vx_Run p l e R s m args below meth c H locs cells slots mc ms (F0 m pc ls st0) rest (va_Ql post B A1 a) (vx_X px BX AX) free) (hS : va_S A0 H0 H locs) (hA : ∀ q, q < H.size → A1 q → A0 q) (hf : ∀ q, free q → A0 q) (hAX : ∀ q, q < H.size → AX q → A0 q)
    (kx : ∀ (E : String) (ce : Cell) (q9 : Addr) (u : SX) (t : State) (H1 : Heap) (locs1 : List Loc), t.heap = H1 → s.vm.Alike t.vm → px u → BX E u t → H.size ≤ H1.size → (∀ q : Nat, q < H.size → ¬ AX q → H1[q]? = H[q]?) → va_S A0 H0 H1 locs1 → H1[q9]? = some ce → ce.vm = .none → s.vm.findClass E = some ce.cls → vx_W p l e R s m args below meth c H1 locs1 (cells + mc) (slots + ms) Q (F0 m pc ls rest) q9)
    (kk : ∀ (r : Int64) (u : S) (t : State) (H1 : Heap) (locs1 : List Loc), t.heap = H1 → s.vm.Alike t.vm → post r u → B u t → H.size ≤ H1.size → (∀ q : Nat, q < H.size → ¬ A1 q → H1[q]? = H[q]?) → va_S A0 H0 H1 locs1 → W p l e R s m args below meth c H1 locs1 (cells + mc) (slots + ms) Q (F0 m (pc + 3) ls (.long r :: rest))) : W p l e R s m args below meth c H locs cells slots Q (F0 m pc ls st0) := by
  intro T hT X
  rcases hr T hT X with ⟨v, st₀, t, T', L, h0, X', hL, e1, e2, ⟨⟨r, u, hv, hp, hb⟩, hF⟩, st⟩ | ⟨q, st₀, t, T', L, E, ce, h0, X', hL, e1, e2, ⟨u, hp, hb, hF⟩, hce, hcv, hcl, st⟩
  · cases hv
    obtain ⟨k1, k2, k3⟩ := vx_keep h0 e1 hS hA hf hL hF
    obtain ⟨t2, a1, b1⟩ := kk r u t T'.heap (locs ++ L) e1.symm (by rw [← e2]; exact X'.warmed.alike) hp hb k1 k2 k3 T' rfl X'
    exact ⟨t2, st t2 a1, b1⟩
  · obtain ⟨k1, k2, k3⟩ := vx_keep h0 e1 hS hAX hf hL hF
    obtain ⟨t2, a1, b1⟩ := kx E ce q u t T'.heap (locs ++ L) e1.symm (by rw [← e2]; exact X'.warmed.alike) hp hb k1 k2 k3 (by rw [e1]; exact hce) hcv hcl T' rfl X'
    exact ⟨t2, st.trans a1, b1⟩
theorem vx_callf {S SX : Type} {post : UInt32 → S → Prop} {px : SX → Prop} {B : S → State → Prop} {BX : String → SX → State → Prop} {AX : Nat → Prop} (hr : vx_Run p l e R s m args below meth c H locs cells slots mc ms (F0 m pc ls st0) rest (va_Qf post B A1 a) (vx_X px BX AX) free) (hS : va_S A0 H0 H locs) (hA : ∀ q, q < H.size → A1 q → A0 q) (hf : ∀ q, free q → A0 q) (hAX : ∀ q, q < H.size → AX q → A0 q)
    (kx : ∀ (E : String) (ce : Cell) (q9 : Addr) (u : SX) (t : State) (H1 : Heap) (locs1 : List Loc), t.heap = H1 → s.vm.Alike t.vm → px u → BX E u t → H.size ≤ H1.size → (∀ q : Nat, q < H.size → ¬ AX q → H1[q]? = H[q]?) → va_S A0 H0 H1 locs1 → H1[q9]? = some ce → ce.vm = .none → s.vm.findClass E = some ce.cls → vx_W p l e R s m args below meth c H1 locs1 (cells + mc) (slots + ms) Q (F0 m pc ls rest) q9)
    (kk : ∀ (r : UInt32) (u : S) (t : State) (H1 : Heap) (locs1 : List Loc), t.heap = H1 → s.vm.Alike t.vm → post r u → B u t → H.size ≤ H1.size → (∀ q : Nat, q < H.size → ¬ A1 q → H1[q]? = H[q]?) → va_S A0 H0 H1 locs1 → W p l e R s m args below meth c H1 locs1 (cells + mc) (slots + ms) Q (F0 m (pc + 3) ls (.float r :: rest))) : W p l e R s m args below meth c H locs cells slots Q (F0 m pc ls st0) := by
  intro T hT X
  rcases hr T hT X with ⟨v, st₀, t, T', L, h0, X', hL, e1, e2, ⟨⟨r, u, hv, hp, hb⟩, hF⟩, st⟩ | ⟨q, st₀, t, T', L, E, ce, h0, X', hL, e1, e2, ⟨u, hp, hb, hF⟩, hce, hcv, hcl, st⟩
  · cases hv
    obtain ⟨k1, k2, k3⟩ := vx_keep h0 e1 hS hA hf hL hF
    obtain ⟨t2, a1, b1⟩ := kk r u t T'.heap (locs ++ L) e1.symm (by rw [← e2]; exact X'.warmed.alike) hp hb k1 k2 k3 T' rfl X'
    exact ⟨t2, st t2 a1, b1⟩
  · obtain ⟨k1, k2, k3⟩ := vx_keep h0 e1 hS hAX hf hL hF
    obtain ⟨t2, a1, b1⟩ := kx E ce q u t T'.heap (locs ++ L) e1.symm (by rw [← e2]; exact X'.warmed.alike) hp hb k1 k2 k3 (by rw [e1]; exact hce) hcv hcl T' rfl X'
    exact ⟨t2, st.trans a1, b1⟩
theorem vx_calld {S SX : Type} {post : UInt64 → S → Prop} {px : SX → Prop} {B : S → State → Prop} {BX : String → SX → State → Prop} {AX : Nat → Prop} (hr : vx_Run p l e R s m args below meth c H locs cells slots mc ms (F0 m pc ls st0) rest (va_Qd post B A1 a) (vx_X px BX AX) free) (hS : va_S A0 H0 H locs) (hA : ∀ q, q < H.size → A1 q → A0 q) (hf : ∀ q, free q → A0 q) (hAX : ∀ q, q < H.size → AX q → A0 q)
    (kx : ∀ (E : String) (ce : Cell) (q9 : Addr) (u : SX) (t : State) (H1 : Heap) (locs1 : List Loc), t.heap = H1 → s.vm.Alike t.vm → px u → BX E u t → H.size ≤ H1.size → (∀ q : Nat, q < H.size → ¬ AX q → H1[q]? = H[q]?) → va_S A0 H0 H1 locs1 → H1[q9]? = some ce → ce.vm = .none → s.vm.findClass E = some ce.cls → vx_W p l e R s m args below meth c H1 locs1 (cells + mc) (slots + ms) Q (F0 m pc ls rest) q9)
    (kk : ∀ (r : UInt64) (u : S) (t : State) (H1 : Heap) (locs1 : List Loc), t.heap = H1 → s.vm.Alike t.vm → post r u → B u t → H.size ≤ H1.size → (∀ q : Nat, q < H.size → ¬ A1 q → H1[q]? = H[q]?) → va_S A0 H0 H1 locs1 → W p l e R s m args below meth c H1 locs1 (cells + mc) (slots + ms) Q (F0 m (pc + 3) ls (.double r :: rest))) : W p l e R s m args below meth c H locs cells slots Q (F0 m pc ls st0) := by
  intro T hT X
  rcases hr T hT X with ⟨v, st₀, t, T', L, h0, X', hL, e1, e2, ⟨⟨r, u, hv, hp, hb⟩, hF⟩, st⟩ | ⟨q, st₀, t, T', L, E, ce, h0, X', hL, e1, e2, ⟨u, hp, hb, hF⟩, hce, hcv, hcl, st⟩
  · cases hv
    obtain ⟨k1, k2, k3⟩ := vx_keep h0 e1 hS hA hf hL hF
    obtain ⟨t2, a1, b1⟩ := kk r u t T'.heap (locs ++ L) e1.symm (by rw [← e2]; exact X'.warmed.alike) hp hb k1 k2 k3 T' rfl X'
    exact ⟨t2, st t2 a1, b1⟩
  · obtain ⟨k1, k2, k3⟩ := vx_keep h0 e1 hS hAX hf hL hF
    obtain ⟨t2, a1, b1⟩ := kx E ce q u t T'.heap (locs ++ L) e1.symm (by rw [← e2]; exact X'.warmed.alike) hp hb k1 k2 k3 (by rw [e1]; exact hce) hcv hcl T' rfl X'
    exact ⟨t2, st.trans a1, b1⟩
theorem vx_callv {S SX : Type} {post : S → Prop} {px : SX → Prop} {B : S → State → Prop} {BX : String → SX → State → Prop} {AX : Nat → Prop} (hr : vx_Run p l e R s m args below meth c H locs cells slots mc ms (F0 m pc ls st0) rest (va_Qv post B A1 a) (vx_X px BX AX) free) (hS : va_S A0 H0 H locs) (hA : ∀ q, q < H.size → A1 q → A0 q) (hf : ∀ q, free q → A0 q) (hAX : ∀ q, q < H.size → AX q → A0 q)
    (kx : ∀ (E : String) (ce : Cell) (q9 : Addr) (u : SX) (t : State) (H1 : Heap) (locs1 : List Loc), t.heap = H1 → s.vm.Alike t.vm → px u → BX E u t → H.size ≤ H1.size → (∀ q : Nat, q < H.size → ¬ AX q → H1[q]? = H[q]?) → va_S A0 H0 H1 locs1 → H1[q9]? = some ce → ce.vm = .none → s.vm.findClass E = some ce.cls → vx_W p l e R s m args below meth c H1 locs1 (cells + mc) (slots + ms) Q (F0 m pc ls rest) q9)
    (kk : ∀ (u : S) (t : State) (H1 : Heap) (locs1 : List Loc), t.heap = H1 → s.vm.Alike t.vm → post u → B u t → H.size ≤ H1.size → (∀ q : Nat, q < H.size → ¬ A1 q → H1[q]? = H[q]?) → va_S A0 H0 H1 locs1 → W p l e R s m args below meth c H1 locs1 (cells + mc) (slots + ms) Q (F0 m (pc + 3) ls (rest))) : W p l e R s m args below meth c H locs cells slots Q (F0 m pc ls st0) := by
  intro T hT X
  rcases hr T hT X with ⟨v, st₀, t, T', L, h0, X', hL, e1, e2, ⟨⟨u, hv, hp, hb⟩, hF⟩, st⟩ | ⟨q, st₀, t, T', L, E, ce, h0, X', hL, e1, e2, ⟨u, hp, hb, hF⟩, hce, hcv, hcl, st⟩
  · cases hv
    obtain ⟨k1, k2, k3⟩ := vx_keep h0 e1 hS hA hf hL hF
    obtain ⟨t2, a1, b1⟩ := kk u t T'.heap (locs ++ L) e1.symm (by rw [← e2]; exact X'.warmed.alike) hp hb k1 k2 k3 T' rfl X'
    exact ⟨t2, st t2 a1, b1⟩
  · obtain ⟨k1, k2, k3⟩ := vx_keep h0 e1 hS hAX hf hL hF
    obtain ⟨t2, a1, b1⟩ := kx E ce q u t T'.heap (locs ++ L) e1.symm (by rw [← e2]; exact X'.warmed.alike) hp hb k1 k2 k3 (by rw [e1]; exact hce) hcv hcl T' rfl X'
    exact ⟨t2, st.trans a1, b1⟩
/-- caught by the row x of this method's table; the rows ahead don't take it -/
theorem vx_catch {own name : String} {E : String} {ce : Cell} {q : Addr} (hown : s.vm.findClass own = some m.cls) (pre : List ExceptionTableEntry) (x : ExceptionTableEntry) (suf : List ExceptionTableEntry) (hsplit : c.exceptionTable.toList = pre ++ x :: suf)
    (hpass : ∀ z ∈ pre, covers z pc = false ∨ (z.catchType ≠ 0 ∧ ∃ nm : String, (Cond.classLink own z.catchType nm).before args s = true ∧ va_Nc E nm s)) (hx : covers x pc = true) (h0 : x.catchType ≠ 0)
    (hlink : (Cond.classLink own x.catchType name).before args s = true) (hcast : (Cond.castable E name).before args s = true) (hcell : H[q]? = some ce) (hv : ce.vm = .none) (hcl : s.vm.findClass E = some ce.cls)
    (kk : W p l e R s m args below meth c H locs cells slots Q (F0 m x.handlerPc ls [.ref q])) : vx_W p l e R s m args below meth c H locs cells slots Q (F0 m pc ls rest) q := by
  intro T hT X
  have hpl : e.platform.magicAccessors = ({} : Platform).magicAccessors := by rw [X.admits.platform]
  obtain ⟨c3, c4, hc3, hc4, hasg⟩ := Cond.castable_spec hcast
  cases Option.some.inj (hc3.symm.trans hcl)
  obtain ⟨c5, hc5, hcl5⟩ := Cond.classLink_spec hown hlink e.platform hpl
  cases Option.some.inj (hc4.symm.trans hc5)
  obtain ⟨vm', X', st⟩ := X.thenCaughtThrough q (g := F0 m pc ls rest) rfl (Steps.refl _) (by rw [hT]; exact hcell) (by rw [hv]; rfl) (by obtain ⟨k9, h9, -⟩ := Vm.findClass_spec hcl; exact ⟨k9, h9⟩) pre x suf hsplit
    (fun z hz => by
      rcases hpass z hz with h | ⟨hz0, nm, hl1, hn1⟩
      · exact Or.inl h
      · obtain ⟨c6, hc6, hcl6⟩ := Cond.classLink_spec hown hl1 e.platform hpl
        obtain ⟨a8, b8, h1, h2, h3⟩ := hn1
        cases Option.some.inj (h1.symm.trans hcl)
        cases Option.some.inj (h2.symm.trans hc6)
        exact Or.inr ⟨hz0, _, hcl6, h3⟩) hx (Or.inr ⟨h0, c4, hcl5, hasg⟩)
  obtain ⟨t, a1, b1⟩ := kk (T.setVm vm') hT X'
  exact ⟨t, st.trans a1, b1⟩
end Rows
section Ends
variable {p : Program} {l : Launch} {e : Env} {R : Room} {s : State} {m : MethodId} {args : Array Value} {below : List Frame} {meth : Method} {c : Code} {H : Heap} {locs : List Loc} {cells slots : Nat} {Q : State → Prop}
variable {mc ms : Nat} {free : Addr → Prop} {A0 A1 : Nat → Prop} {H0 : Heap} {a : Array Value} {ls : Array Slot} {st0 rest : List Value}
variable {Qc : Array Value → State → Outcome → State → Prop} {XC : String → State → State → Prop}
/-- what a body that may throw owes at its end -/
def vx_MQ (below : List Frame) (Qc : Array Value → State → Outcome → State → Prop) (XC : String → State → State → Prop) (a : Array Value) (s : State) (mc ms : Nat) (free : Addr → Prop) : State → Prop := fun t =>
  ∃ o, t.status = .running ∧ Ended t below o ∧ vx_Q Qc XC mc ms free a s o t
theorem vx_ret {g : JFrame} {mc ms : Nat} (k : W p l e R s m args below meth c H locs cells slots (MQ below Qc args s mc ms free) g) : W p l e R s m args below meth c H locs cells slots (vx_MQ below Qc XC args s mc ms free) g := by
  intro T hT X
  obtain ⟨t, a1, o, b1, b2, b3, b4⟩ := k T hT X
  exact ⟨t, a1, o, b1, b2, Or.inl ⟨b3, b4⟩⟩
/-- not caught here: it goes on to the caller -/
theorem vx_widen {g : JFrame} {q : Addr} {k n : Nat} (h1 : cells ≤ k) (h2 : slots ≤ n) (kk : vx_W p l e R s m args below meth c H locs k n Q g q) : vx_W p l e R s m args below meth c H locs cells slots Q g q := fun T hT X => kk T hT (stand_widen X h1 h2)
theorem vx_out {pc : Nat} {E : String} {ce : Cell} {q : Addr} {mc ms : Nat} (hout : ∀ x ∈ c.exceptionTable.toList, covers x pc = false) (hlocks : meth.locks = false) (hcell : H[q]? = some ce) (hv : ce.vm = .none) (hcl : s.vm.findClass E = some ce.cls)
    (hx : ∀ t : State, t.heap = H → s.vm.Alike t.vm → XC E s t) (hf : ∀ z ∈ locs, free z.base) (hc : cells ≤ mc) (hs : slots ≤ ms) :
    vx_W p l e R s m args below meth c H locs cells slots (vx_MQ below Qc XC args s mc ms free) (F0 m pc ls rest) q := by
  intro T hT X
  obtain ⟨st1, hrun, hend, hW, hsm⟩ := X.leaveThrown q (g := F0 m pc ls rest) rfl rfl rfl hout hlocks
  have hcell9 : (T.setFrames (.throwing q :: below)).heap[q]? = some ce := by
    show T.heap[q]? = some ce
    rw [hT]; exact hcell
  exact ⟨_, st1, .threw q, hrun, hend, Or.inr ⟨q, rfl, E, ce, locs, hx _ hT hW.alike, hcell9, hv, hcl, hW, hsm.mono hc hs, hf⟩⟩
theorem vx_frame {U : State} {k n : Nat} (h : s.sameButNew ({ U with vm := s.vm } : State) locs k n) : s.heap.size ≤ U.heap.size ∧ ∀ q : Nat, q < s.heap.size → (∀ z ∈ locs, z.base ≠ q) → U.heap[q]? = s.heap[q]? := by
  obtain ⟨-, h2, -, -, -, h6⟩ := h
  refine ⟨h2, fun q hq hz => ?_⟩
  obtain ⟨c9, e1, e2, e3, e4⟩ := h6 q _ (Array.getElem?_eq_getElem hq)
  have hs : c9.slots = (s.heap[q]).slots := Array.ext_getElem? fun i => e4 i fun hm => hz _ hm rfl
  have h9 : c9 = s.heap[q] := by
    rw [hs] at e2
    exact e2
  have e5 : U.heap[q]? = some c9 := e1
  rw [e5, h9, Array.getElem?_eq_getElem hq]
/-- the words of a throw but the four that speak of the heap -/
def vx_no (w : Cond) : Bool := decide (w ≠ .isRef (.static Bundle.tN "UNASSIGNED_STACK" Bundle.steD)) && decide (w ≠ .isRef (.static Bundle.tN "SUPPRESSED_SENTINEL" Bundle.listD)) && decide (w ≠ .laysStatic Bundle.tN "UNASSIGNED_STACK" Bundle.steD) && decide (w ≠ .laysStatic Bundle.tN "SUPPRESSED_SENTINEL" Bundle.listD)
def vx_at0 (own : String) (ic : Nat) (X : String) (names : List String) : List Cond := (Bundle.ownAtoms0 own ic X names).filter vx_no
def vx_atS (own : String) (ic : Nat) (X : String) (names : List String) : List Cond := (Bundle.ownAtoms own ic X names).filter vx_no
/-- a word that the tables alone decide, or a good one -/
def vx_ot (w : Cond) : Bool := w.onTables || goodWord w
theorem vx_ot_at {args a' : Array Value} {s U : State} {w : Cond} (hW : s.WarmedH U.vm) (hvm : s.vm = U.vm) (hg : vx_ot w = true) (h : w.before args s = true) : w.before a' U = true := by
  simp only [vx_ot, Bool.or_eq_true] at hg
  rcases hg with hg | hg
  · exact va_tabs hg hvm h
  · exact word_at hW (good_of_word hg) h
/-- a list's words: the good ones out of the method's own list, the others by premises of their own -/
theorem vx_hat {args : Array Value} {s : State} {L B : List Cond} (h1 : ∀ w ∈ L.filter goodWord, w.before args s = true) (h2 : ∀ w ∈ L.filter (fun w => !goodWord w), w ∈ B) (h3 : ∀ w ∈ B, w.before args s = true) : ∀ w ∈ L, w.before args s = true := by
  intro w hw
  by_cases g : goodWord w = true
  · exact h1 w (List.mem_filter.mpr ⟨hw, g⟩)
  · refine h3 w (h2 w (List.mem_filter.mpr ⟨hw, ?_⟩))
    show (!goodWord w) = true
    cases hgw : goodWord w
    · rfl
    · exact absurd hgw g
theorem vx_c {args : Array Value} {s : State} {w : Cond} {B : List Cond} (h : w.before args s = true) (t : ∀ w ∈ B, w.before args s = true) : ∀ w' ∈ w :: B, w'.before args s = true := fun w' h' => (List.mem_cons.mp h').elim (fun e => by rw [e]; exact h) (t w')
theorem vx_n {args : Array Value} {s : State} : ∀ w ∈ ([] : List Cond), w.before args s = true := fun _ h => nomatch h
theorem vx_own {args : Array Value} {s : State} {L : List Cond} (h1 : ∀ w ∈ L.filter vx_no, w.before args s = true)
    (hU : (Cond.isRef (.static Bundle.tN "UNASSIGNED_STACK" Bundle.steD)).before args s = true) (hN : (Cond.isRef (.static Bundle.tN "SUPPRESSED_SENTINEL" Bundle.listD)).before args s = true)
    (lU : (Cond.laysStatic Bundle.tN "UNASSIGNED_STACK" Bundle.steD).before args s = true) (lN : (Cond.laysStatic Bundle.tN "SUPPRESSED_SENTINEL" Bundle.listD).before args s = true) : ∀ w ∈ L, w.before args s = true := by
  intro w hw
  by_cases e1 : w = .isRef (.static Bundle.tN "UNASSIGNED_STACK" Bundle.steD)
  · rw [e1]; exact hU
  · by_cases e2 : w = .isRef (.static Bundle.tN "SUPPRESSED_SENTINEL" Bundle.listD)
    · rw [e2]; exact hN
    · by_cases e3 : w = .laysStatic Bundle.tN "UNASSIGNED_STACK" Bundle.steD
      · rw [e3]; exact lU
      · by_cases e4 : w = .laysStatic Bundle.tN "SUPPRESSED_SENTINEL" Bundle.listD
        · rw [e4]; exact lN
        · exact h1 w (List.mem_filter.mpr ⟨hw, by unfold vx_no; rw [decide_eq_true e1, decide_eq_true e2, decide_eq_true e3, decide_eq_true e4]; rfl⟩)
/-- where a static field lies, its class's statics cell in H -/
def vx_L (C n d : String) (A : Nat → Prop) (U : State) (H : Heap) : Prop := ∃ (c : ClassId) (k : Class) (i : Nat) (f : Field) (a : Nat) (cell : Cell), U.vm.findClass C = some c ∧ U.fieldFound? C n d = some (c, k, i, f) ∧ f.isStatic = true ∧ k.statics = some a ∧ H[a]? = some cell ∧ cell.vm.isStatics = true ∧ cell.cls = c ∧ f.slot < cell.slots.size ∧ k.staticTypes[f.slot]? = some f.type ∧ ¬ A a
theorem vx_L.moved {C n d : String} {A : Nat → Prop} {u U : State} {H : Heap} (hvm : u.vm.Alike U.vm) (h : vx_L C n d A u H) : vx_L C n d A U H := by
  obtain ⟨c, k, i, f, a, cell, h1, h2, h3, h4, h5, h6, h7, h8, h9, h10⟩ := h
  obtain ⟨k', hi', he⟩ := State.fieldFound?_setVm hvm h2
  exact ⟨c, k', i, f, a, cell, by rw [hvm.findClass]; exact h1, hi', h3, by rw [he]; exact h4, h5, h6, h7, h8, by rw [he]; exact h9, h10⟩
theorem vx_L.kept {C n d : String} {A : Nat → Prop} {U : State} {H H1 : Heap} (h : vx_L C n d A U H) (hq : ∀ a : Nat, a < H.size → ¬ A a → H1[a]? = H[a]?) : vx_L C n d A U H1 := by
  obtain ⟨c, k, i, f, a, cell, h1, h2, h3, h4, h5, h6, h7, h8, h9, h10⟩ := h
  exact ⟨c, k, i, f, a, cell, h1, h2, h3, h4, by rw [hq a (Array.getElem?_eq_some_iff.mp h5).1 h10]; exact h5, h6, h7, h8, h9, h10⟩
theorem vx_L.narrow {C n d : String} {A B : Nat → Prop} {U : State} {H : Heap} (h : vx_L C n d A U H) (hAB : ∀ q, B q → A q) : vx_L C n d B U H := by
  obtain ⟨c, k, i, f, a, cell, h1, h2, h3, h4, h5, h6, h7, h8, h9, h10⟩ := h
  exact ⟨c, k, i, f, a, cell, h1, h2, h3, h4, h5, h6, h7, h8, h9, fun z => h10 (hAB _ z)⟩
theorem vx_L.word {C n d : String} {A : Nat → Prop} {s : State} {args : Array Value} (h : vx_L C n d A s s.heap) : (Cond.laysStatic C n d).before args s = true := by
  obtain ⟨c, k, i, f, a, cell, h1, h2, h3, h4, h5, h6, h7, h8, h9, -⟩ := h
  show (Cond.laysStatic C n d).holds args s none s [] = true
  exact Cond.laysStatic_of h1 h2 h3 h4 h5 h6 h7 h8 h9
/-- .. and what it holds: null or some reference -/
def vx_Zq (C n d : String) (A : Nat → Prop) (U : State) (H : Heap) : Prop := va_Zq C n d A U H ∧ vx_L C n d A U H
theorem vx_Zq.moved {C n d : String} {A : Nat → Prop} {u U : State} {H : Heap} (hvm : u.vm.Alike U.vm) (h : vx_Zq C n d A u H) : vx_Zq C n d A U H := ⟨va_Zq.moved hvm h.1, vx_L.moved hvm h.2⟩
theorem vx_Zq.kept {C n d : String} {A : Nat → Prop} {U : State} {H H1 : Heap} (h : vx_Zq C n d A U H) (hq : ∀ a : Nat, a < H.size → ¬ A a → H1[a]? = H[a]?) : vx_Zq C n d A U H1 := ⟨va_Zq.kept h.1 hq, vx_L.kept h.2 hq⟩
theorem vx_Zq.narrow {C n d : String} {A B : Nat → Prop} {U : State} {H : Heap} (h : vx_Zq C n d A U H) (hAB : ∀ q, B q → A q) : vx_Zq C n d B U H := ⟨va_Zq.narrow h.1 hAB, vx_L.narrow h.2 hAB⟩
theorem vx_Zqof {args : Array Value} {s : State} {C n d : String} {A : Nat → Prop} (hl : (Cond.laysStatic C n d).before args s = true) (hini : (Cond.initialized C).before args s = true) (h : (Cond.isRef (.static C n d)).before args s = true) (hA : ∀ a : Nat, a < s.heap.size → ¬ A a) : vx_Zq C n d A s s.heap := by
  refine ⟨va_Zqof hl hini h hA, ?_⟩
  obtain ⟨c, k, i, f, a, cell, h1, h2, h3, h4, h5, h6, h7, h8, h9⟩ := Cond.laysStatic_spec hl
  exact ⟨c, k, i, f, a, cell, h1, h2, h3, h4, h5, h6, h7, h8, h9, hA a (Array.getElem?_eq_some_iff.mp h5).1⟩
theorem vx_isRef {C n d : String} {v : Value} {A : Nat → Prop} {s : State} {args : Array Value} (h : va_Z C n d v A s s.heap) (hv : v.isRef = true) : (Cond.isRef (.static C n d)).before args s = true := by
  obtain ⟨cf, kf, fi, f, a, cell, h1, h2, h3, h4, h5, h6, h7, -⟩ := h
  have he : (Term.static C n d).eval args s none [] s = some v := by
    simp [Term.eval, State.fieldNamed?, h1, h2, h4, h5, h6, h7]
  simp only [Cond.before, Cond.holds, Cond.value, he]
  cases v <;> simp_all [Value.isRef]
theorem vx_isRefq {C n d : String} {A : Nat → Prop} {s : State} {args : Array Value} (h : va_Zq C n d A s s.heap) : (Cond.isRef (.static C n d)).before args s = true := by
  rcases h with h | ⟨t, h⟩
  · exact vx_isRef h rfl
  · exact vx_isRef h rfl
/-- the same frame, seen from here: as if the method were called anew in this heap -/
theorem vx_rebase {T : State} (X : Stand p l e R s m args below meth c T locs cells slots) {R' : Room} (hf : R'.frames ≤ R.frames) (hl : R'.locals ≤ R.locals) (hc : cells + R'.cells ≤ R.cells) (hs : slots + R'.slots ≤ R.slots) :
    Stand p l e R' ((T.setVm s.vm).setFrames (.invoking m args :: below)) m args below meth c T [] 0 0 := by
  have htop : (T.setVm s.vm).topJava?.isSome := X.here.top
  have hF : ((T.setVm s.vm).setFrames (.invoking m args :: below)).frames = .invoking m args :: below := State.frames_setFrames _ (State.cur_lt_of_top htop)
  obtain ⟨g₀, hg0⟩ := Option.isSome_iff_exists.mp htop
  obtain ⟨r, hr⟩ := State.topJava?_eq_some.mp hg0
  have hl9 : e.platform.stackLimits (T.setVm s.vm).me = e.platform.stackLimits s.me := X.limits
  have hb9 : (T.setVm s.vm).me.stackBytes = s.me.stackBytes := X.bytes
  refine ⟨X.admits, X.cas, X.clock, hF, ?_, X.hears, X.method, X.code, X.here, X.tail, X.warmed, ?_, ?_, ?_⟩
  · have h := X.room
    have hU : ((T.setVm s.vm).setFrames (.invoking m args :: below)).localsInUse = s.localsInUse := by
      rw [State.localsInUse_invoking hF (meth := meth) (c := c) X.method X.code, State.localsInUse_invoking X.frames X.method X.code]
    simp only [State.hasRoom, Bool.and_eq_true, decide_eq_true_eq] at h ⊢
    obtain ⟨⟨⟨⟨h1, h2, h3, h4, h5, h6⟩, h7⟩, h8⟩, h9⟩ := h
    rw [X.frames, List.length_cons] at h2 h3
    have q1 := X.heapSize
    have q2 := X.used
    simp only [hF, hU, List.length_cons, State.stackLimits_setFrames, State.stackBytes_setFrames, hl9, hb9]
    refine ⟨⟨⟨⟨by omega, by omega, by omega, by omega, by omega, h6⟩, ?_⟩, ?_⟩, X.book⟩
    · show T.heap.size + R'.cells ≤ e.platform.maxCells
      omega
    · show T.slotsUsed + R'.slots ≤ e.platform.maxSlots
      omega
  · rw [State.stackLimits_setFrames]; rfl
  · rw [State.stackBytes_setFrames]; rfl
  · refine ⟨?_, Nat.le_refl _, Nat.le_refl _, ?_, ?_, fun a c9 h9 => ⟨c9, h9, rfl, rfl, fun _ _ => rfl⟩⟩
    · obtain ⟨t, ht, -⟩ := State.frames_cons hr
      show T.setVm s.vm = { ((T.setVm s.vm).setFrames (.invoking m args :: below)).setFrames (T.setVm s.vm).frames with heap := T.heap, slotsUsed := T.slotsUsed }
      rw [State.setFrames_setFrames, State.setFrames_self ht]
      rfl
    · show T.slotsUsed = T.slotsUsed + ((T.heap.toList.drop T.heap.size).map (·.slots.size)).sum
      rw [List.drop_eq_nil_of_le (Nat.le_of_eq Array.length_toList)]
      rfl
    · show ((T.heap.toList.drop T.heap.size).map (·.slots.size)).sum ≤ 0
      rw [List.drop_eq_nil_of_le (Nat.le_of_eq Array.length_toList)]
      exact Nat.le_refl _
/-- 'throw new E()': new; dup; invokespecial; athrow -/
theorem vx_throw0 {cc : ByteArray} {pc : Nat} (hexec : p.tables.exec = Jvm.exec) (hb : c.code = cc) (hl : l.stackTraces = false) {own cls : String} {names : List String} {ik ic mc ms : Nat} {A : Nat → Prop}
    (hown : s.vm.findClass own = some m.cls) (hcls : Bundle.fit cls = true) (hnames : ∀ n ∈ names, Bundle.fit n = true)
    (hk : (Cond.classLink own ik cls).before args s = true) (hini : (Cond.initialized cls).before args s = true) (hat : ∀ w ∈ vx_at0 own ic cls names, w.before args s = true)
    (hgood : ∀ w ∈ Cond.classLink own ik cls :: Cond.initialized cls :: vx_at0 own ic cls names, vx_ot w = true)
    (hU : vx_Zq Bundle.tN "UNASSIGNED_STACK" Bundle.steD A s s.heap) (hN : vx_Zq Bundle.tN "SUPPRESSED_SENTINEL" Bundle.listD A s s.heap) (hS : va_S A s.heap H locs) (hsize : ls.size = c.maxLocals)
    (d0 : decode cc pc = .ok (.new ik, 3)) (d3 : decode cc (pc + 3) = .ok (.dup, 1)) (d4 : decode cc (pc + 4) = .ok (.invokespecial ic, 3)) (d7 : decode cc (pc + 7) = .ok (.athrow, 1))
    (hout : ∀ x ∈ c.exceptionTable.toList, covers x (pc + 7) = false)
    (hRframes : names.length + 3 < R.frames) (hRlocals : (rest.map fun v => v.category).sum + (13 * (names.length + 1) + 42) ≤ R.locals) (hRcells : cells + 1 ≤ R.cells) (hRslots : slots + 6 ≤ R.slots) (hlocks : meth.locks = false)
    (hx : ∀ t : State, s.vm.Alike t.vm → H.size ≤ t.heap.size → (∀ q : Nat, q < H.size → t.heap[q]? = H[q]?) → XC cls s t)
    (hf : ∀ z ∈ locs, free z.base) (hc : cells + 1 ≤ mc) (hs : slots + 6 ≤ ms) :
    W p l e R s m args below meth c H locs cells slots (vx_MQ below Qc XC args s mc ms free) (F0 m pc ls rest) := by
  intro T hT X
  have htr : e.platform.stackTraces = false := (show e.platform.stackTraces = l.stackTraces by rw [X.admits.platform]).trans hl
  have Y := vx_rebase X (R' := { frames := R.frames, locals := R.locals, cells := 1, slots := 6 }) (Nat.le_refl _) (Nat.le_refl _) hRcells hRslots
  obtain ⟨s', hA⟩ : ∃ z, z = (T.setVm s.vm).setFrames (.invoking m args :: below) := ⟨_, rfl⟩
  rw [← hA] at Y
  have hvm : s'.vm = s.vm := by rw [hA]; rfl
  have hhp : s'.heap = H := by rw [hA]; exact hT
  have hW0 : s.WarmedH s'.vm := by rw [hvm]; exact State.WarmedH.refl s
  have hat' : ∀ w ∈ vx_at0 own ic cls names, w.before args s' = true := fun w hw => vx_ot_at hW0 hvm.symm (hgood w (List.mem_cons_of_mem _ (List.mem_cons_of_mem _ hw))) (hat w hw)
  have hk' : (Cond.classLink own ik cls).before args s' = true := vx_ot_at hW0 hvm.symm (hgood _ List.mem_cons_self) hk
  have hini' : (Cond.initialized cls).before args s' = true := vx_ot_at hW0 hvm.symm (hgood _ (List.mem_cons_of_mem _ List.mem_cons_self)) hini
  have hU' : vx_Zq Bundle.tN "UNASSIGNED_STACK" Bundle.steD A s' s'.heap := by rw [hhp]; exact vx_Zq.moved hW0.alike (hU.kept hS.2.1)
  have hN' : vx_Zq Bundle.tN "SUPPRESSED_SENTINEL" Bundle.listD A s' s'.heap := by rw [hhp]; exact vx_Zq.moved hW0.alike (hN.kept hS.2.1)
  have h : ∀ w ∈ Bundle.ownAtoms0 own ic cls names, w.before args s' = true := vx_own hat' (vx_isRefq hU'.1) (vx_isRefq hN'.1) hU'.2.word hN'.2.word
  have hown' : s'.vm.findClass own = some m.cls := by rw [hvm]; exact hown
  have hins : (Cond.instantiable cls 6).before args s' = true := h _ (by simp [Bundle.ownAtoms0])
  obtain ⟨vm₁, cX, kX, hfX, hkX, -, -, X₁, st1⟩ := Y.newCold hexec (own := own) (C := cls) (index := ik) (n := 6) hown' hk' hins hini'
    (g := F0 m pc ls rest) rfl (by rw [hb]; exact d0) (Nat.le_refl _) (Nat.le_refl _)
  generalize hT1 : (T.setVm vm₁).pushCell { cls := cX, slots := kX.instanceTypes.map defaultValue, vm := .none } = T1 at X₁ st1
  have hcat : (Value.ref T.heap.size).category = 1 := rfl
  have hcellA : T1.heap[T.heap.size]? = some (freshCell cX kX) := by rw [← hT1]; exact State.heap_pushCell_size _ _
  have d3' : decode c.code (pc + 3) = .ok (.dup, 1) := by rw [hb]; exact d3
  obtain ⟨U, hsteps, hrun, hend, hW, hsame, ce, hce, hO⟩ := X₁.ctorThrow0 hexec htr (own := own) (cls := cls) (names := names) (ic := ic) hown' hcls hnames h (fun x hx => nomatch hx) hfX hkX hcellA (by rw [hhp, hT]; exact Nat.le_refl _)
    (g := { method := m, pc := pc + 4, locals := ls, stack := .ref T.heap.size :: .ref T.heap.size :: rest, locked := none }) rfl hsize rfl rfl (rest := rest) rfl
    (by rw [hb]; exact d4) (by rw [hb]; exact d7) hout hRframes (by simp only [List.map_cons, List.sum_cons, hcat]; omega) hlocks
  obtain ⟨f1, f2⟩ := vx_frame hsame
  rw [hhp] at f1 f2
  have hWs : s.WarmedH U.vm := State.WarmedH.trans hW0 hW
  have hcl : s.vm.findClass cls = some ce.cls := by
    have h9 := hO.cls
    rw [hvm] at h9
    exact h9
  have hall : s.sameButNew ({ U with vm := s.vm } : State) locs mc ms := by
    subst hA
    obtain ⟨e1, e2⟩ := hsame
    rw [State.setFrames_setFrames] at e1
    have h2 : (T.setVm s.vm).sameButNew ({ U with vm := s.vm } : State) [] (0 + 1) (0 + 6) := ⟨e1, e2⟩
    have h3 := X.same.trans h2
    rw [List.append_nil] at h3
    exact h3.mono hc hs
  refine ⟨U, ?_, .threw T.heap.size, hrun, hend, Or.inr ⟨T.heap.size, rfl, cls, ce, locs, hx U hWs.alike f1 (fun q hq => f2 q hq (fun z hz => nomatch hz)), hce, hO.vm, hcl, hWs, hall, hf⟩⟩
  refine st1 _ ?_
  show Steps p.tables e below (T1.setTop { method := m, pc := pc + 3, locals := ls, stack := .ref T.heap.size :: rest, locked := none }) _
  jvm_step X₁.here [X₁.here.top, hexec, d3', Value.category]
  exact hsteps
/-- 'throw new E("text")': new; dup; ldc; invokespecial; athrow -/
theorem vx_throwS {cc : ByteArray} {pc : Nat} (hexec : p.tables.exec = Jvm.exec) (hb : c.code = cc) (hl : l.stackTraces = false) {own cls text : String} {names : List String} {ik is ic mc ms sa : Nat} {A : Nat → Prop}
    (hown : s.vm.findClass own = some m.cls) (hcls : Bundle.fit cls = true) (hnames : ∀ n ∈ names, Bundle.fit n = true)
    (hk : (Cond.classLink own ik cls).before args s = true) (hini : (Cond.initialized cls).before args s = true) (hstr : vk_R own is text sa s) (hat : ∀ w ∈ vx_atS own ic cls names, w.before args s = true)
    (hgood : ∀ w ∈ Cond.classLink own ik cls :: Cond.initialized cls :: vx_atS own ic cls names, vx_ot w = true)
    (hU : vx_Zq Bundle.tN "UNASSIGNED_STACK" Bundle.steD A s s.heap) (hN : vx_Zq Bundle.tN "SUPPRESSED_SENTINEL" Bundle.listD A s s.heap) (hS : va_S A s.heap H locs) (hsize : ls.size = c.maxLocals)
    (d0 : decode cc pc = .ok (.new ik, 3)) (d3 : decode cc (pc + 3) = .ok (.dup, 1)) (d4 : decode cc (pc + 4) = .ok (.ldc is, 2)) (d6 : decode cc (pc + 6) = .ok (.invokespecial ic, 3)) (d9 : decode cc (pc + 9) = .ok (.athrow, 1))
    (hout : ∀ x ∈ c.exceptionTable.toList, covers x (pc + 9) = false)
    (hRframes : names.length + 3 < R.frames) (hRlocals : (rest.map fun v => v.category).sum + (13 * (names.length + 1) + 43) ≤ R.locals) (hRcells : cells + 1 ≤ R.cells) (hRslots : slots + 6 ≤ R.slots) (hlocks : meth.locks = false)
    (hx : ∀ t : State, s.vm.Alike t.vm → H.size ≤ t.heap.size → (∀ q : Nat, q < H.size → t.heap[q]? = H[q]?) → XC cls s t)
    (hf : ∀ z ∈ locs, free z.base) (hc : cells + 1 ≤ mc) (hs : slots + 6 ≤ ms) :
    W p l e R s m args below meth c H locs cells slots (vx_MQ below Qc XC args s mc ms free) (F0 m pc ls rest) := by
  intro T hT X
  have htr : e.platform.stackTraces = false := (show e.platform.stackTraces = l.stackTraces by rw [X.admits.platform]).trans hl
  have Y := vx_rebase X (R' := { frames := R.frames, locals := R.locals, cells := 1, slots := 6 }) (Nat.le_refl _) (Nat.le_refl _) hRcells hRslots
  obtain ⟨s', hA⟩ : ∃ z, z = (T.setVm s.vm).setFrames (.invoking m args :: below) := ⟨_, rfl⟩
  rw [← hA] at Y
  have hvm : s'.vm = s.vm := by rw [hA]; rfl
  have hhp : s'.heap = H := by rw [hA]; exact hT
  have hW0 : s.WarmedH s'.vm := by rw [hvm]; exact State.WarmedH.refl s
  have hat' : ∀ w ∈ vx_atS own ic cls names, w.before args s' = true := fun w hw => vx_ot_at hW0 hvm.symm (hgood w (List.mem_cons_of_mem _ (List.mem_cons_of_mem _ hw))) (hat w hw)
  have hk' : (Cond.classLink own ik cls).before args s' = true := vx_ot_at hW0 hvm.symm (hgood _ List.mem_cons_self) hk
  have hini' : (Cond.initialized cls).before args s' = true := vx_ot_at hW0 hvm.symm (hgood _ (List.mem_cons_of_mem _ List.mem_cons_self)) hini
  have hU' : vx_Zq Bundle.tN "UNASSIGNED_STACK" Bundle.steD A s' s'.heap := by rw [hhp]; exact vx_Zq.moved hW0.alike (hU.kept hS.2.1)
  have hN' : vx_Zq Bundle.tN "SUPPRESSED_SENTINEL" Bundle.listD A s' s'.heap := by rw [hhp]; exact vx_Zq.moved hW0.alike (hN.kept hS.2.1)
  have h : ∀ w ∈ Bundle.ownAtoms own ic cls names, w.before args s' = true := vx_own hat' (vx_isRefq hU'.1) (vx_isRefq hN'.1) hU'.2.word hN'.2.word
  have hown' : s'.vm.findClass own = some m.cls := by rw [hvm]; exact hown
  have hins : (Cond.instantiable cls 6).before args s' = true := h _ (by simp [Bundle.ownAtoms])
  obtain ⟨vm₁, cX, kX, hfX, hkX, -, -, X₁, st1⟩ := Y.newCold hexec (own := own) (C := cls) (index := ik) (n := 6) hown' hk' hins hini'
    (g := F0 m pc ls rest) rfl (by rw [hb]; exact d0) (Nat.le_refl _) (Nat.le_refl _)
  generalize hT1 : (T.setVm vm₁).pushCell { cls := cX, slots := kX.instanceTypes.map defaultValue, vm := .none } = T1 at X₁ st1
  have hcat : (Value.ref T.heap.size).category = 1 := rfl
  have hcellA : T1.heap[T.heap.size]? = some (freshCell cX kX) := by rw [← hT1]; exact State.heap_pushCell_size _ _
  have d3' : decode c.code (pc + 3) = .ok (.dup, 1) := by rw [hb]; exact d3
  have d4' : decode c.code (pc + 4) = .ok (.ldc is, 2) := by rw [hb]; exact d4
  have hstr' : vk_R own is text sa s' := vk_R.warm hW0 hstr
  obtain ⟨U, hsteps, hrun, hend, hW, hsame, ce, hce, hO⟩ := X₁.ctorThrowS hexec htr (own := own) (cls := cls) (names := names) (ic := ic) hown' hcls hnames h (fun x hx => nomatch hx) hfX hkX hcellA (by rw [hhp, hT]; exact Nat.le_refl _) (msg := .ref sa) rfl
    (g := { method := m, pc := pc + 6, locals := ls, stack := .ref sa :: .ref T.heap.size :: .ref T.heap.size :: rest, locked := none }) rfl hsize rfl rfl (rest := rest) rfl
    (by rw [hb]; exact d6) (by rw [hb]; exact d9) hout hRframes (by simp only [List.map_cons, List.sum_cons, hcat]; omega) hlocks
  obtain ⟨f1, f2⟩ := vx_frame hsame
  rw [hhp] at f1 f2
  have hWs : s.WarmedH U.vm := State.WarmedH.trans hW0 hW
  have hcl : s.vm.findClass cls = some ce.cls := by
    have h9 := hO.cls
    rw [hvm] at h9
    exact h9
  have hall : s.sameButNew ({ U with vm := s.vm } : State) locs mc ms := by
    subst hA
    obtain ⟨e1, e2⟩ := hsame
    rw [State.setFrames_setFrames] at e1
    have h2 : (T.setVm s.vm).sameButNew ({ U with vm := s.vm } : State) [] (0 + 1) (0 + 6) := ⟨e1, e2⟩
    have h3 := X.same.trans h2
    rw [List.append_nil] at h3
    exact h3.mono hc hs
  refine ⟨U, ?_, .threw T.heap.size, hrun, hend, Or.inr ⟨T.heap.size, rfl, cls, ce, locs, hx U hWs.alike f1 (fun q hq => f2 q hq (fun z hz => nomatch hz)), hce, hO.vm, hcl, hWs, hall, hf⟩⟩
  refine st1 _ ?_
  show Steps p.tables e below (T1.setTop { method := m, pc := pc + 3, locals := ls, stack := .ref T.heap.size :: rest, locked := none }) _
  jvm_step X₁.here [X₁.here.top, hexec, d3', Value.category]
  exact X₁.ldcString hexec (own := own) (text := text) (index := is) (a := sa) hown' hstr'.1 hstr'.2
    (g := { method := m, pc := pc + 4, locals := ls, stack := .ref T.heap.size :: .ref T.heap.size :: rest, locked := none }) rfl d4' _ hsteps
/-- 'throw new E("text")', the text by a wide index -/
theorem vx_throwSW {cc : ByteArray} {pc : Nat} (hexec : p.tables.exec = Jvm.exec) (hb : c.code = cc) (hl : l.stackTraces = false) {own cls text : String} {names : List String} {ik is ic mc ms sa : Nat} {A : Nat → Prop}
    (hown : s.vm.findClass own = some m.cls) (hcls : Bundle.fit cls = true) (hnames : ∀ n ∈ names, Bundle.fit n = true)
    (hk : (Cond.classLink own ik cls).before args s = true) (hini : (Cond.initialized cls).before args s = true) (hstr : vk_R own is text sa s) (hat : ∀ w ∈ vx_atS own ic cls names, w.before args s = true)
    (hgood : ∀ w ∈ Cond.classLink own ik cls :: Cond.initialized cls :: vx_atS own ic cls names, vx_ot w = true)
    (hU : vx_Zq Bundle.tN "UNASSIGNED_STACK" Bundle.steD A s s.heap) (hN : vx_Zq Bundle.tN "SUPPRESSED_SENTINEL" Bundle.listD A s s.heap) (hS : va_S A s.heap H locs) (hsize : ls.size = c.maxLocals)
    (d0 : decode cc pc = .ok (.new ik, 3)) (d3 : decode cc (pc + 3) = .ok (.dup, 1)) (d4 : decode cc (pc + 4) = .ok (.ldc_w is, 3)) (d7 : decode cc (pc + 7) = .ok (.invokespecial ic, 3)) (d10 : decode cc (pc + 10) = .ok (.athrow, 1))
    (hout : ∀ x ∈ c.exceptionTable.toList, covers x (pc + 10) = false)
    (hRframes : names.length + 3 < R.frames) (hRlocals : (rest.map fun v => v.category).sum + (13 * (names.length + 1) + 43) ≤ R.locals) (hRcells : cells + 1 ≤ R.cells) (hRslots : slots + 6 ≤ R.slots) (hlocks : meth.locks = false)
    (hx : ∀ t : State, s.vm.Alike t.vm → H.size ≤ t.heap.size → (∀ q : Nat, q < H.size → t.heap[q]? = H[q]?) → XC cls s t)
    (hf : ∀ z ∈ locs, free z.base) (hc : cells + 1 ≤ mc) (hs : slots + 6 ≤ ms) :
    W p l e R s m args below meth c H locs cells slots (vx_MQ below Qc XC args s mc ms free) (F0 m pc ls rest) := by
  intro T hT X
  have htr : e.platform.stackTraces = false := (show e.platform.stackTraces = l.stackTraces by rw [X.admits.platform]).trans hl
  have Y := vx_rebase X (R' := { frames := R.frames, locals := R.locals, cells := 1, slots := 6 }) (Nat.le_refl _) (Nat.le_refl _) hRcells hRslots
  obtain ⟨s', hA⟩ : ∃ z, z = (T.setVm s.vm).setFrames (.invoking m args :: below) := ⟨_, rfl⟩
  rw [← hA] at Y
  have hvm : s'.vm = s.vm := by rw [hA]; rfl
  have hhp : s'.heap = H := by rw [hA]; exact hT
  have hW0 : s.WarmedH s'.vm := by rw [hvm]; exact State.WarmedH.refl s
  have hat' : ∀ w ∈ vx_atS own ic cls names, w.before args s' = true := fun w hw => vx_ot_at hW0 hvm.symm (hgood w (List.mem_cons_of_mem _ (List.mem_cons_of_mem _ hw))) (hat w hw)
  have hk' : (Cond.classLink own ik cls).before args s' = true := vx_ot_at hW0 hvm.symm (hgood _ List.mem_cons_self) hk
  have hini' : (Cond.initialized cls).before args s' = true := vx_ot_at hW0 hvm.symm (hgood _ (List.mem_cons_of_mem _ List.mem_cons_self)) hini
  have hU' : vx_Zq Bundle.tN "UNASSIGNED_STACK" Bundle.steD A s' s'.heap := by rw [hhp]; exact vx_Zq.moved hW0.alike (hU.kept hS.2.1)
  have hN' : vx_Zq Bundle.tN "SUPPRESSED_SENTINEL" Bundle.listD A s' s'.heap := by rw [hhp]; exact vx_Zq.moved hW0.alike (hN.kept hS.2.1)
  have h : ∀ w ∈ Bundle.ownAtoms own ic cls names, w.before args s' = true := vx_own hat' (vx_isRefq hU'.1) (vx_isRefq hN'.1) hU'.2.word hN'.2.word
  have hown' : s'.vm.findClass own = some m.cls := by rw [hvm]; exact hown
  have hins : (Cond.instantiable cls 6).before args s' = true := h _ (by simp [Bundle.ownAtoms])
  obtain ⟨vm₁, cX, kX, hfX, hkX, -, -, X₁, st1⟩ := Y.newCold hexec (own := own) (C := cls) (index := ik) (n := 6) hown' hk' hins hini'
    (g := F0 m pc ls rest) rfl (by rw [hb]; exact d0) (Nat.le_refl _) (Nat.le_refl _)
  generalize hT1 : (T.setVm vm₁).pushCell { cls := cX, slots := kX.instanceTypes.map defaultValue, vm := .none } = T1 at X₁ st1
  have hcat : (Value.ref T.heap.size).category = 1 := rfl
  have hcellA : T1.heap[T.heap.size]? = some (freshCell cX kX) := by rw [← hT1]; exact State.heap_pushCell_size _ _
  have d3' : decode c.code (pc + 3) = .ok (.dup, 1) := by rw [hb]; exact d3
  have d4' : decode c.code (pc + 4) = .ok (.ldc_w is, 3) := by rw [hb]; exact d4
  have hstr' : vk_R own is text sa s' := vk_R.warm hW0 hstr
  obtain ⟨U, hsteps, hrun, hend, hW, hsame, ce, hce, hO⟩ := X₁.ctorThrowS hexec htr (own := own) (cls := cls) (names := names) (ic := ic) hown' hcls hnames h (fun x hx => nomatch hx) hfX hkX hcellA (by rw [hhp, hT]; exact Nat.le_refl _) (msg := .ref sa) rfl
    (g := { method := m, pc := pc + 7, locals := ls, stack := .ref sa :: .ref T.heap.size :: .ref T.heap.size :: rest, locked := none }) rfl hsize rfl rfl (rest := rest) rfl
    (by rw [hb]; exact d7) (by rw [hb]; exact d10) hout hRframes (by simp only [List.map_cons, List.sum_cons, hcat]; omega) hlocks
  obtain ⟨f1, f2⟩ := vx_frame hsame
  rw [hhp] at f1 f2
  have hWs : s.WarmedH U.vm := State.WarmedH.trans hW0 hW
  have hcl : s.vm.findClass cls = some ce.cls := by
    have h9 := hO.cls
    rw [hvm] at h9
    exact h9
  have hall : s.sameButNew ({ U with vm := s.vm } : State) locs mc ms := by
    subst hA
    obtain ⟨e1, e2⟩ := hsame
    rw [State.setFrames_setFrames] at e1
    have h2 : (T.setVm s.vm).sameButNew ({ U with vm := s.vm } : State) [] (0 + 1) (0 + 6) := ⟨e1, e2⟩
    have h3 := X.same.trans h2
    rw [List.append_nil] at h3
    exact h3.mono hc hs
  refine ⟨U, ?_, .threw T.heap.size, hrun, hend, Or.inr ⟨T.heap.size, rfl, cls, ce, locs, hx U hWs.alike f1 (fun q hq => f2 q hq (fun z hz => nomatch hz)), hce, hO.vm, hcl, hWs, hall, hf⟩⟩
  refine st1 _ ?_
  show Steps p.tables e below (T1.setTop { method := m, pc := pc + 3, locals := ls, stack := .ref T.heap.size :: rest, locked := none }) _
  jvm_step X₁.here [X₁.here.top, hexec, d3', Value.category]
  exact X₁.ldcStringW hexec (own := own) (text := text) (index := is) (a := sa) hown' hstr'.1 hstr'.2
    (g := { method := m, pc := pc + 4, locals := ls, stack := .ref T.heap.size :: .ref T.heap.size :: rest, locked := none }) rfl d4' _ hsteps
end Ends
section Bodies
variable {l : Launch}
theorem vx_ofW {y : MethodName} {ws ws' : List Cond} {rm : Room} {Pc : Array Value → State → Prop} {Qc : Array Value → State → Outcome → State → Prop} {XC : String → State → State → Prop} {mc ms : Nat} {free : Addr → Prop} {cc : ByteArray} {maxL : Nat} {ret : Option FieldType}
    (hy : plainName y.cls = true) (hw : ws = Cond.code y cc maxL ret :: ws')
    (body : ∀ p e s m args below meth c s₁, BodyLoose p l y (headSpec ws rm) cc maxL ret e s m args below meth c s₁ → c.maxLocals = maxL → (∀ x ∈ c.exceptionTable.toList, False) → Pc args s →
      W p l e (headSpec ws rm).room s m args below meth c s.heap [] 0 0 (vx_MQ below Qc XC args s mc ms free) (entryFrame m args maxL)) : vx_Met l y ws rm Pc Qc XC mc ms free := by
  refine MetFree.of_bodyS (code := cc) (maxLocals := maxL) (ret := ret) hy ?_ ?_
  · intro args s m h hn
    obtain ⟨meth, c, h1, h2, h3, h4, h5, h6, -, -⟩ := Cond.code_spec hn (atoms_spec (ws := ws) h _ (by rw [hw]; exact List.mem_cons_self))
    exact ⟨meth, c, h1, h2, h3, h4, h5, h6⟩
  · intro p e s m args below meth c s₁ B hml hP _
    have hh0 : s₁.heap = s.heap := by rw [B.state]; rfl
    have ht : ∀ x ∈ c.exceptionTable.toList, False := by
      obtain ⟨meth9, c9, h1, h2, -, -, -, -, h7, -⟩ := Cond.code_spec B.named (atoms_spec (ws := ws) B.pre _ (by rw [hw]; exact List.mem_cons_self))
      cases Option.some.inj (h1.symm.trans B.method)
      cases Option.some.inj (h2.symm.trans (Stand.of_body B).code)
      intro x hx
      rw [Array.isEmpty_iff.mp h7] at hx
      cases hx
    obtain ⟨t, a1, o, b1, b2, b3⟩ := body p e s m args below meth c s₁ B hml ht hP s₁ hh0 (Stand.of_body B)
    exact ⟨t, o, a1, b1, b2, b3⟩
/-- the table of a body with handlers -/
theorem vx_table {p : Program} {x y : MethodName} {S : Spec} {cc bytes : ByteArray} {maxL maxL' : Nat} {ret ret' : Option FieldType} {e : Env} {s s₁ : State} {m : MethodId} {args : Array Value} {below : List Frame} {meth : Method} {c : Code} {hh : List (Nat × Nat × Nat × Nat)}
    (B : BodyLoose p l y S cc maxL ret e s m args below meth c s₁) (h : (Cond.codeWith y bytes maxL' ret' hh).before args s = true) : c.exceptionTable.toList = tableOf hh := by
  obtain ⟨m9, meth9, c9, hn9, h1, h2, -, -, h6, -⟩ := Cond.codeWith_spec h
  cases Option.some.inj (hn9.symm.trans B.named)
  cases Option.some.inj (h1.symm.trans B.method)
  cases Option.some.inj (h2.symm.trans (Stand.of_body B).code)
  rw [← h6, table_eq]
end Bodies
end VXA
/-! ===== END ===== -/
/-! ===== BEGIN a static call of a method with an exception table ===== -/
section VXS
variable {p : Program} {l : Launch} {e : Env} {R : Room} {s : State} {m : MethodId} {args : Array Value} {below : List Frame} {meth : Method} {c : Code} {T : State} {H : Heap} {locs : List Loc} {cells slots : Nat}
abbrev vx_CSW (R : Room) (s : State) (args : Array Value) (own : String) (index : Nat) (y : MethodName) (bytes : ByteArray) (maxL : Nat) (ret : Option FieldType) (hh : List (Nat × Nat × Nat × Nat)) (ws : List Cond) (rm : Room) (mc ms n : Nat) : Prop :=
  (rm.cells = mc ∧ rm.slots = ms ∧ rm.frames + 1 ≤ R.frames ∧ 8 + (maxL + 11) + rm.locals ≤ R.locals ∧ (∀ w ∈ ws, ∀ (a' : Array Value) (U : State), s.WarmedH U.vm → w.before a' U = true) ∧ Cond.codeWith y bytes maxL ret hh ∈ ws) ∧
  (Cond.codeWith y bytes maxL ret hh).before args s = true ∧ (Cond.initialized y.cls).before args s = true ∧ (y.cls ≠ "java/lang/invoke/MethodHandle" ∧ y.cls ≠ "java/lang/invoke/VarHandle") ∧
  (∀ sig, parseMethodDescriptor y.desc = some sig → n = sig.parameters.length) ∧ (Cond.methodLink own index y).before args s = true ∧ (Cond.static y).before args s = true
theorem vx_cwSW {own : String} {index maxL mc ms : Nat} {y : MethodName} {bytes : ByteArray} {ret : Option FieldType} {hh : List (Nat × Nat × Nat × Nat)} {Ts ws ws' : List Cond} {rm : Room} (n : Nat) (ht : ∀ w ∈ Ts, w.before args s = true) (hT : GoodIn Ts (va_wsS own index y ws)) (hw : ws = Cond.codeWith y bytes maxL ret hh :: ws') (hrc : rm.cells = mc) (hrs : rm.slots = ms)
    (hd : y.cls ≠ "java/lang/invoke/MethodHandle" ∧ y.cls ≠ "java/lang/invoke/VarHandle" ∧ (parseMethodDescriptor y.desc).map (fun d => d.parameters.length) = some n) (hR : rm.frames + 1 ≤ R.frames ∧ 8 + (maxL + 11) + rm.locals ≤ R.locals) :
    vx_CSW R s args own index y bytes maxL ret hh ws rm mc ms n := by
  have ok : ∀ w ∈ va_wsS own index y ws, w.before args s = true := fun w h => ht w (hT w h).1
  have hG : GoodIn Ts ws := fun w h => hT w (by unfold va_wsS; exact List.mem_append_right _ h)
  have hc : Cond.codeWith y bytes maxL ret hh ∈ ws := by rw [hw]; exact List.mem_cons_self
  refine ⟨⟨hrc, hrs, hR.1, hR.2, pay_in ht hG, hc⟩, ht _ (hG _ hc).1, ok _ (by simp [va_wsS]), ⟨hd.1, hd.2.1⟩, fun sig h => ?_, ok _ (by simp [va_wsS]), ok _ (by simp [va_wsS])⟩
  have h2 := hd.2.2
  rw [h] at h2
  exact (Option.some.inj h2).symm
theorem vx_callSW (X : Stand p l e R s m args below meth c T locs cells slots) (hexec : p.tables.exec = Jvm.exec) {own : String} {index : Nat} {y : MethodName} {bytes : ByteArray} {maxL : Nat} {ret : Option FieldType} {hh : List (Nat × Nat × Nat × Nat)}
    (hown : s.vm.findClass own = some m.cls) (hlink : (Cond.methodLink own index y).before args s = true) (hstat : (Cond.static y).before args s = true) (hinit : (Cond.initialized y.cls).before args s = true)
    (hcode : (Cond.codeWith y bytes maxL ret hh).before args s = true) (hy : y.cls ≠ "java/lang/invoke/MethodHandle" ∧ y.cls ≠ "java/lang/invoke/VarHandle")
    {W9 : Nat} {Pre : Pt → Array Value → Prop} {Post : Pt → Array Value → Option Value → Pt → Prop} (hK : Back l R p e below s args y 3 W9 Pre Post)
    {g : JFrame} (hg : g.method = m) (hsize : g.locals.size = c.maxLocals) {argsL rest : List Value} (hlen : ∀ sig, parseMethodDescriptor y.desc = some sig → argsL.length = sig.parameters.length)
    (hstack : g.stack = argsL.reverse ++ rest) (hW : 2 * g.monitorRoom + (rest.map fun v => v.category).sum ≤ W9) (hdg : decode c.code g.pc = .ok (.invokestatic index, 3))
    (hpre : ∀ vm₁, s.WarmedH vm₁ → Pre ⟨T.setVm vm₁, locs, cells, slots⟩ argsL.toArray) :
    ∃ (v : Option Value) (vm₁ : Vm) (B : Pt), s.WarmedH vm₁ ∧ Stand p l e R s m args below meth c B.U B.locs B.cells B.slots ∧ Post ⟨T.setVm vm₁, locs, cells, slots⟩ argsL.toArray v B ∧
      ∀ target, Steps p.tables e below (B.U.setTop { g with pc := g.pc + 3, stack := v.toList ++ rest }) target → Steps p.tables e below (T.setTop g) target := by
  obtain ⟨mk, methM, cM, hnamed, hmethM, -, -, -, -, -, -, hsigM⟩ := Cond.codeWith_spec hcode
  have hstatic : methM.isStatic = true := Cond.static_spec hnamed hmethM hstat
  obtain ⟨kP, hkP, -⟩ := className_of_methodNamed hnamed
  have hinitP : kP.init = .initialized := Cond.initialized_spec (findClass_of_methodNamed hnamed) hkP hinit
  obtain ⟨vm₁, X₁, hstep₁⟩ := X.invokestatic hexec hown hlink hnamed hmethM hstatic hkP hinitP hy (g := g) hg (argsL := argsL) (rest := rest) (hlen _ hsigM) hstack hdg
  obtain ⟨v, B, X', hpost, hsteps⟩ := hK m meth c ⟨T.setVm vm₁, locs, cells, slots⟩ { g with stack := rest } (.invokestatic index) mk argsL.toArray X₁ hg hsize hdg hW (X₁.named hnamed) (hpre vm₁ X₁.warmed)
  exact ⟨v, vm₁, B, X₁.warmed, X', hpost, fun target h => hstep₁ _ fun acts => by rw [doInvoke_state]; exact hsteps.trans h⟩
theorem vx_runSW {y : MethodName} {bytes cc : ByteArray} {maxL nL mc ms n index : Nat} {ret : Option FieldType} {hh : List (Nat × Nat × Nat × Nat)} {ws : List Cond} {rm : Room} {Pc : Array Value → State → Prop} {Qc : Array Value → State → Outcome → State → Prop} {free : Addr → Prop} {Ts : List Cond} {own : String} {As rest : List Value} {g : JFrame}
    (S : CallFix p m c cc nL s args Ts own) (hM : Met l y ws rm Pc Qc mc ms free) (cw : vx_CSW R s args own index y bytes maxL ret hh ws rm mc ms n) (hp : PreS s H Pc As)
    (hg : g.method = m) (hn : As.length = n) (hsize : g.locals.size = nL) (hstack : g.stack = As.reverse ++ rest) (hW : 2 * g.monitorRoom + (rest.map fun v => v.category).sum ≤ 8) (hdg : decode cc g.pc = .ok (.invokestatic index, 3)) (hf : cells + mc ≤ R.cells ∧ slots + ms ≤ R.slots) :
    va_Run p l e R s m args below meth c H locs cells slots mc ms g rest (Qc As.toArray) (free) := by
  obtain ⟨⟨hrc, hrs, hfr, hlo, hws, hcw⟩, hcode, hini, hy, hlen, hl, hstt⟩ := cw
  have hK : Back l R p e below s args y 3 8 (PreOf R mc ms Pc) (PostOf Qc mc ms free) := va_backW (hh := hh) (bytes := bytes) (maxL := maxL) (ret := ret) hM hp.1 hrc hrs hfr hlo hws hcw (fun a' U hW => word_at hW (Or.inl (by first | rfl | simp [Cond.onTables, Cond.keeps, Cond.steady])) hini)
  obtain ⟨hx, hb, hml, ho, -⟩ := S
  intro T hT X
  obtain ⟨v, vm₁, ⟨U', l2, c2, s2⟩, hW₁, X', ⟨g', mk, t, L, e1, e2, hq, h1, hL, h2, h3⟩, st⟩ := vx_callSW X hx (hh := hh) (bytes := bytes) (maxL := maxL) (ret := ret) ho hl hstt hini hcode hy hK hg (hsize.trans hml.symm) (argsL := As) (rest := rest) (fun sig h => hn.trans (hlen sig h)) hstack hW (by rw [hb]; exact hdg)
    (fun vm₁ hW₁ => ⟨hf.1, hf.2, hp.2 (T.setVm vm₁) hT hW₁⟩)
  dsimp only [Pt.U, Pt.locs, Pt.cells, Pt.slots] at X' e1 e2 h1 h2 h3 st
  subst h1; subst h2; subst h3
  exact ⟨v, (T.setVm vm₁).calling g' mk As.toArray, t, U', L, hT, X', hL, e1, e2, hq, st⟩
/-- not caught here, past rows that name other classes: it goes on to the caller -/
theorem vx_outP {p : Program} {l : Launch} {e : Env} {R : Room} {s : State} {m : MethodId} {args : Array Value} {below : List Frame} {meth : Method} {c : Code} {H : Heap} {locs : List Loc} {cells slots : Nat} {free : Addr → Prop} {ls : Array Slot} {rest : List Value} {Qc : Array Value → State → Outcome → State → Prop} {XC : String → State → State → Prop}
    {pc : Nat} {own E : String} {ce : Cell} {q : Addr} {mc ms : Nat} (hown : s.vm.findClass own = some m.cls) (hlocks : meth.locks = false)
    (hpass : ∀ z ∈ c.exceptionTable.toList, covers z pc = false ∨ (z.catchType ≠ 0 ∧ ∃ nm : String, (Cond.classLink own z.catchType nm).before args s = true ∧ va_Nc E nm s)) (hcell : H[q]? = some ce) (hv : ce.vm = .none) (hcl : s.vm.findClass E = some ce.cls)
    (hx : ∀ t : State, t.heap = H → s.vm.Alike t.vm → XC E s t) (hf : ∀ z ∈ locs, free z.base) (hc : cells ≤ mc) (hs : slots ≤ ms) :
    vx_W p l e R s m args below meth c H locs cells slots (vx_MQ below Qc XC args s mc ms free) (F0 m pc ls rest) q := by
  intro T hT X
  have hpl : e.platform.magicAccessors = ({} : Platform).magicAccessors := by rw [X.admits.platform]
  obtain ⟨vm', hW', X', st⟩ := X.outThrough hlocks q (g := F0 m pc ls rest) rfl rfl rfl (cell := ce) (by rw [hT]; exact hcell) (by rw [hv]; rfl)
    (by obtain ⟨k9, h9, -⟩ := Vm.findClass_spec hcl; exact ⟨k9, h9⟩) (fun z hz => by
      rcases hpass z hz with h | ⟨hz0, nm, hl1, hn1⟩
      · exact Or.inl h
      · obtain ⟨c6, hc6, hcl6⟩ := Cond.classLink_spec hown hl1 e.platform hpl
        obtain ⟨a8, b8, h1, h2, h3⟩ := hn1
        cases Option.some.inj (h1.symm.trans hcl)
        cases Option.some.inj (h2.symm.trans hc6)
        exact Or.inr ⟨hz0, _, hcl6, h3⟩)
  obtain ⟨g₀, hfr⟩ := X'.frames_eq
  have hcell9 : ((T.setVm vm').setFrames (.throwing q :: below)).heap[q]? = some ce := by
    show T.heap[q]? = some ce
    rw [hT]; exact hcell
  have hend : Ended ((T.setVm vm').setFrames (.throwing q :: below)) below (.threw q) := State.frames_setFrames _ (State.cur_lt_of_frames hfr)
  refine ⟨(T.setVm vm').setFrames (.throwing q :: below), ?_, .threw q, X'.here.running, hend, Or.inr ⟨q, rfl, E, ce, locs, hx _ hT (X'.ends _).1.alike, hcell9, hv, hcl, (X'.ends _).1, (X'.ends _).2.mono hc hs, hf⟩⟩
  rw [X.pushThrowing_eq]
  exact st
/-- a thing of a world lies in the heap -/
theorem vx_lt {D : va_G} {cl : List vw_C} {ws : va_W} {H1 : Heap} (h : va_P D cl ws H1) {k : Nat} {q : Nat × va_E} (hk : ws[k]? = some q) : q.1 < H1.size := (h k q hk).lt
end VXS
/-! ===== END ===== -/
/-! ===== BEGIN methods with a table of their own: called by a name, returning or throwing ===== -/
section VXH
/-! vx_backW, vx_callVX, vx_callSX, vx_callVW, vx_runVW, vx_runVX, vx_runSX, vx_ofWH follow the same proofs as their sisters above (Free/Laws.lean, Shelf42/LK1.lean); vx_outP calls Shelf42/NT130.lean (outThrough). -/
section
variable {l : Launch} {R : Room} {p : Program} {e : Env} {below : List Frame} {s : State} {sargs : Array Value} {y : MethodName} {len W9 : Nat}
theorem vx_backW {ws : List Cond} {rm : Room} {Pc : Array Value → State → Prop} {Qc : Array Value → State → Outcome → State → Prop} {XC : String → State → State → Prop} {mc ms : Nat} {free : Addr → Prop} {bytes : ByteArray} {maxL : Nat} {ret : Option FieldType} {hh : List (Nat × Nat × Nat × Nat)}
    (hM : vx_Met l y ws rm Pc Qc XC mc ms free) (hblind : FrameBlind Pc) (hrc : rm.cells = mc) (hrs : rm.slots = ms)
    (hframes : rm.frames + 1 ≤ R.frames) (hlocals : W9 + (maxL + 11) + rm.locals ≤ R.locals)
    (hws : ∀ w ∈ ws, ∀ a' U, s.WarmedH U.vm → w.before a' U = true) (hcode : Cond.codeWith y bytes maxL ret hh ∈ ws) (hinit : ∀ a' U, s.WarmedH U.vm → (Cond.initialized y.cls).before a' U = true) :
    vx_Back l R p e below s sargs y len W9 (PreOf R mc ms Pc) (PostOf Qc mc ms free) (vx_Post XC mc ms free) := by
  intro m meth c A g ig mk a X hg hsize hdg hW hn hp
  have h1 : (headSpec ws rm).pre.before a A.U = true := atoms_intro fun w hw => hws w hw _ _ X.warmed
  have h2 : (Cond.codeWith y bytes maxL ret hh).before a A.U = true := hws _ hcode _ _ X.warmed
  have h3 : (Cond.initialized y.cls).before a A.U = true := hinit _ _ X.warmed
  have h4 : A.cells + (headSpec ws rm).room.cells ≤ R.cells := by rw [show (headSpec ws rm).room.cells = mc from hrc]; exact hp.1
  have h5 : A.slots + (headSpec ws rm).room.slots ≤ R.slots := by rw [show (headSpec ws rm).room.slots = ms from hrs]; exact hp.2.1
  have hPc : Pc a (A.U.calling g mk a) := hblind _ _ _ _ hp.2.2
  obtain ⟨U, Ls, c0, s0⟩ := A
  dsimp only [Pt.U, Pt.locs, Pt.cells, Pt.slots] at h1 h2 h3 h4 h5 X hn hPc ⊢
  obtain ⟨m9, methY, cY, hn9, hmY, hcY, -, hlY, -⟩ := Cond.codeWith_spec h2
  cases Option.some.inj (hn9.symm.trans hn)
  obtain ⟨kY, hkY, -⟩ := className_of_methodNamed hn
  have hinitY : kY.init = .initialized := Cond.initialized_spec (findClass_of_methodNamed hn) hkY h3
  have h : At U g.method c below := by rw [hg]; exact X.here
  have hlocals9 : W9 + (maxL + 11) + (headSpec ws rm).room.locals ≤ R.locals := hlocals
  have happ : (headSpec ws rm).appliesLoose y e.platform (U.calling g mk a) = true :=
    Spec.appliesLoose_calling (g := g) h hdg hn hkY hinitY
      (X.room_calling (g := g) (R' := (headSpec ws rm).room) hsize hmY hcY hframes (by rw [hlY]; omega) h4 h5) h1
  obtain ⟨mid, hmid⟩ := h.above
  have hfr : (U.setTop g).frames = (.java g :: mid) ++ below := by rw [State.frames_setTop' g h.top, hmid]; rfl
  obtain ⟨o, s₂, hsteps, -, hend, hq⟩ := Steps.callFree hM p X.admits X.cas X.clock (acts := []) hfr happ hPc trivial
  have hq' : vx_Q Qc XC mc ms free a (U.calling g mk a) o s₂ := hq
  rw [State.frames_setTop' g h.top] at hend
  obtain ⟨g₀, hg0⟩ := Option.isSome_iff_exists.mp h.top
  obtain ⟨r, hr⟩ := State.topJava?_eq_some.mp hg0
  have hr' : (({ U with heap := s₂.heap, slotsUsed := s₂.slotsUsed } : State).setVm s₂.vm).frames = .java g₀ :: r := hr
  rcases hq' with ⟨hqc, L, hfe, hL⟩ | ⟨q, rfl, E, ce, L, hx, hce, hcv, hcl, hW₂, hsm, hL⟩
  · obtain ⟨⟨v, rfl⟩, hW₂, e2, q2, q3, q4, q5, q6⟩ := id hfe
    have e3 : s₂ = ({ (U.calling g mk a).setFrames s₂.frames with heap := s₂.heap, slotsUsed := s₂.slotsUsed } : State).setVm s₂.vm := by
      have : s₂ = ({ s₂ with vm := (U.calling g mk a).vm } : State).setVm s₂.vm := rfl
      rw [e2] at this
      exact this
    obtain ⟨c₂, i₂, len₂, hc₂, hd₂, hf₂⟩ := hend
    have hW' : U.WarmedH s₂.vm := hW₂
    have hcc : c₂ = c := by
      have h1 : s₂.code? g.method = U.code? g.method := by
        rw [State.code?_eq, State.code?_eq, hW'.alike.method?]
      exact Option.some.inj (hc₂.symm.trans (h1.trans h.code))
    subst hcc
    have hlen : len₂ = len := by rw [hdg] at hd₂; cases hd₂; rfl
    subst hlen
    have hs₂ : s₂ = (({ U with heap := s₂.heap, slotsUsed := s₂.slotsUsed } : State).setVm s₂.vm).setTop { g with pc := g.pc + len₂, stack := v.toList ++ g.stack } := by
      refine e3.trans ?_
      rw [hf₂, State.calling_eq h.top, State.setFrames_setFrames, State.setTop_of_frames _ hr', hr]
      rfl
    have hsame : U.sameButNew ({ U with heap := s₂.heap, slotsUsed := s₂.slotsUsed } : State) L mc ms := by
      refine ⟨?_, q2, q3, q4, q5, q6⟩
      obtain ⟨t, ht, -⟩ := State.frames_cons hr
      show ({ U with heap := s₂.heap, slotsUsed := s₂.slotsUsed } : State) = { U.setFrames U.frames with heap := s₂.heap, slotsUsed := s₂.slotsUsed }
      rw [State.setFrames_self ht]
    subst hg
    refine Or.inl ⟨v, ⟨(({ U with heap := s₂.heap, slotsUsed := s₂.slotsUsed } : State).setVm s₂.vm), Ls ++ L, c0 + mc, s0 + ms⟩,
      ⟨X.admits, X.cas, X.clock, X.frames, X.room, X.hears, X.method, X.code, (X.here.setHeapUsed s₂.heap s₂.slotsUsed).setVm hW'.alike, X.tail, State.WarmedH.trans X.warmed hW', X.limits, X.bytes, X.same.trans (hsame.setVm s.vm)⟩,
      ⟨g, mk, s₂, L, rfl, rfl, hqc, rfl, hL, rfl, rfl⟩, ?_⟩
    show Steps p.tables e below _ ((({ U with heap := s₂.heap, slotsUsed := s₂.slotsUsed } : State).setVm s₂.vm).setTop { g with pc := g.pc + len₂, stack := v.toList ++ g.stack })
    rw [← hs₂]
    exact hsteps
  · obtain ⟨e2, q2, q3, q4, q5, q6⟩ := id hsm
    have e3 : s₂ = ({ (U.calling g mk a).setFrames s₂.frames with heap := s₂.heap, slotsUsed := s₂.slotsUsed } : State).setVm s₂.vm := by
      have : s₂ = ({ s₂ with vm := (U.calling g mk a).vm } : State).setVm s₂.vm := rfl
      rw [e2] at this
      exact this
    have hf₂ : s₂.frames = .throwing q :: .java g :: U.frames.tail := hend
    have hW' : U.WarmedH s₂.vm := hW₂
    have hs₂ : s₂ = ((({ U with heap := s₂.heap, slotsUsed := s₂.slotsUsed } : State).setVm s₂.vm).setTop g).pushFrame (.throwing q) := by
      refine e3.trans ?_
      rw [hf₂, State.calling_eq h.top, State.setFrames_setFrames, State.pushFrame, State.frames_setTop _ hr', State.setTop_of_frames _ hr', State.setFrames_setFrames, hr]
      rfl
    have hsame : U.sameButNew ({ U with heap := s₂.heap, slotsUsed := s₂.slotsUsed } : State) L mc ms := by
      refine ⟨?_, q2, q3, q4, q5, q6⟩
      obtain ⟨t, ht, -⟩ := State.frames_cons hr
      show ({ U with heap := s₂.heap, slotsUsed := s₂.slotsUsed } : State) = { U.setFrames U.frames with heap := s₂.heap, slotsUsed := s₂.slotsUsed }
      rw [State.setFrames_self ht]
    subst hg
    refine Or.inr ⟨q, ⟨(({ U with heap := s₂.heap, slotsUsed := s₂.slotsUsed } : State).setVm s₂.vm), Ls ++ L, c0 + mc, s0 + ms⟩,
      ⟨X.admits, X.cas, X.clock, X.frames, X.room, X.hears, X.method, X.code, (X.here.setHeapUsed s₂.heap s₂.slotsUsed).setVm hW'.alike, X.tail, State.WarmedH.trans X.warmed hW', X.limits, X.bytes, X.same.trans (hsame.setVm s.vm)⟩,
      ⟨g, mk, s₂, L, E, ce, rfl, rfl, hx, hce, hcv, hcl, rfl, hL, rfl, rfl⟩, ?_⟩
    show Steps p.tables e below _ (((({ U with heap := s₂.heap, slotsUsed := s₂.slotsUsed } : State).setVm s₂.vm).setTop g).pushFrame (.throwing q))
    rw [← hs₂]
    exact hsteps
end
variable {p : Program} {l : Launch} {e : Env} {R : Room} {s : State} {m : MethodId} {args : Array Value} {below : List Frame} {meth : Method} {c : Code} {T : State} {H : Heap} {locs : List Loc} {cells slots : Nat}
theorem vx_callVX (X : Stand p l e R s m args below meth c T locs cells slots) (hexec : p.tables.exec = Jvm.exec) {own C : String} {index : Nat} {y : MethodName} {bytes : ByteArray} {maxL : Nat} {ret : Option FieldType} {hh : List (Nat × Nat × Nat × Nat)}
    (hown : s.vm.findClass own = some m.cls) (hlink : (Cond.methodLink own index y).before args s = true) (hinst : (Cond.instanceMethod y).before args s = true) (hsel : (Cond.selects C y y).before args s = true)
    (hcode : (Cond.codeWith y bytes maxL ret hh).before args s = true) (hy : y.cls ≠ "java/lang/invoke/MethodHandle" ∧ y.cls ≠ "java/lang/invoke/VarHandle")
    {W9 : Nat} {Pre : Pt → Array Value → Prop} {Post : Pt → Array Value → Option Value → Pt → Prop} {PostX : Pt → Array Value → Addr → Pt → Prop} (hK : vx_Back l R p e below s args y 3 W9 Pre Post PostX)
    {b : Addr} {cellB : Cell} (hcell : T.heap[b]? = some cellB) (hobj : cellB.vm.isStatics = false) (hcls : s.vm.findClass C = some cellB.cls)
    {g : JFrame} (hg : g.method = m) (hsize : g.locals.size = c.maxLocals) {argsL rest : List Value} (hlen : ∀ sig, parseMethodDescriptor y.desc = some sig → argsL.length = sig.parameters.length)
    (hstack : g.stack = argsL.reverse ++ .ref b :: rest) (hW : 2 * g.monitorRoom + (rest.map fun v => v.category).sum ≤ W9) (hdg : decode c.code g.pc = .ok (.invokevirtual index, 3))
    (hpre : ∀ vm₁, s.WarmedH vm₁ → Pre ⟨T.setVm vm₁, locs, cells, slots⟩ (Value.ref b :: argsL).toArray) :
    (∃ (v : Option Value) (vm₁ : Vm) (B : Pt), s.WarmedH vm₁ ∧ Stand p l e R s m args below meth c B.U B.locs B.cells B.slots ∧ Post ⟨T.setVm vm₁, locs, cells, slots⟩ (Value.ref b :: argsL).toArray v B ∧
      ∀ target, Steps p.tables e below (B.U.setTop { g with pc := g.pc + 3, stack := v.toList ++ rest }) target → Steps p.tables e below (T.setTop g) target) ∨
    (∃ (q : Addr) (vm₁ : Vm) (B : Pt), s.WarmedH vm₁ ∧ Stand p l e R s m args below meth c B.U B.locs B.cells B.slots ∧ PostX ⟨T.setVm vm₁, locs, cells, slots⟩ (Value.ref b :: argsL).toArray q B ∧
      Steps p.tables e below (T.setTop g) ((B.U.setTop { g with stack := rest }).pushFrame (.throwing q))) := by
  obtain ⟨mk, methM, hnamed, hmethM, hstM, habM⟩ := Cond.instanceMethod_spec hinst
  obtain ⟨m8, methM', cM, hn8, hmethM', -, -, -, -, -, -, hsigM⟩ := Cond.codeWith_spec hcode
  cases Option.some.inj (hn8.symm.trans hnamed)
  cases hmethM.symm.trans hmethM'
  obtain ⟨c2, r2, m2, q1, q2, q3, q4, kP, hkP, hkPi⟩ := Cond.selects_spec hsel
  cases hcls.symm.trans q1
  cases (State.methodFound?_of_named hnamed hy).symm.trans q2
  cases hnamed.symm.trans q3
  have hselP : selectMethod e.platform s.vm cellB.cls mk = .method mk := by rw [Launch.admits_selectMethod X.admits]; exact q4
  obtain ⟨vm₁, X₁, hstep₁⟩ := X.invokevirtual hexec hown hlink hnamed hmethM hstM hkP hkPi hy (a := b) (cell := cellB) hcell
    (fun z h => by rw [h] at hobj; cases hobj) hselP hmethM habM hkP hkPi (g := g) hg (argsL := argsL) (rest := rest) (hlen _ hsigM) hstack hdg
  rcases hK m meth c ⟨T.setVm vm₁, locs, cells, slots⟩ { g with stack := rest } (.invokevirtual index) mk (Value.ref b :: argsL).toArray X₁ hg hsize hdg hW (X₁.named hnamed) (hpre vm₁ X₁.warmed) with ⟨v, B, X', hpost, hsteps⟩ | ⟨q, B, X', hpost, hsteps⟩
  · exact Or.inl ⟨v, vm₁, B, X₁.warmed, X', hpost, fun target h => hstep₁ _ fun acts => by rw [doInvoke_state]; exact hsteps.trans h⟩
  · exact Or.inr ⟨q, vm₁, B, X₁.warmed, X', hpost, hstep₁ _ fun acts => by rw [doInvoke_state]; exact hsteps⟩
theorem vx_callSX (X : Stand p l e R s m args below meth c T locs cells slots) (hexec : p.tables.exec = Jvm.exec) {own : String} {index : Nat} {y : MethodName} {bytes : ByteArray} {maxL : Nat} {ret : Option FieldType} {hh : List (Nat × Nat × Nat × Nat)}
    (hown : s.vm.findClass own = some m.cls) (hlink : (Cond.methodLink own index y).before args s = true) (hstat : (Cond.static y).before args s = true) (hinit : (Cond.initialized y.cls).before args s = true)
    (hcode : (Cond.codeWith y bytes maxL ret hh).before args s = true) (hy : y.cls ≠ "java/lang/invoke/MethodHandle" ∧ y.cls ≠ "java/lang/invoke/VarHandle")
    {W9 : Nat} {Pre : Pt → Array Value → Prop} {Post : Pt → Array Value → Option Value → Pt → Prop} {PostX : Pt → Array Value → Addr → Pt → Prop} (hK : vx_Back l R p e below s args y 3 W9 Pre Post PostX)
    {g : JFrame} (hg : g.method = m) (hsize : g.locals.size = c.maxLocals) {argsL rest : List Value} (hlen : ∀ sig, parseMethodDescriptor y.desc = some sig → argsL.length = sig.parameters.length)
    (hstack : g.stack = argsL.reverse ++ rest) (hW : 2 * g.monitorRoom + (rest.map fun v => v.category).sum ≤ W9) (hdg : decode c.code g.pc = .ok (.invokestatic index, 3))
    (hpre : ∀ vm₁, s.WarmedH vm₁ → Pre ⟨T.setVm vm₁, locs, cells, slots⟩ argsL.toArray) :
    (∃ (v : Option Value) (vm₁ : Vm) (B : Pt), s.WarmedH vm₁ ∧ Stand p l e R s m args below meth c B.U B.locs B.cells B.slots ∧ Post ⟨T.setVm vm₁, locs, cells, slots⟩ argsL.toArray v B ∧
      ∀ target, Steps p.tables e below (B.U.setTop { g with pc := g.pc + 3, stack := v.toList ++ rest }) target → Steps p.tables e below (T.setTop g) target) ∨
    (∃ (q : Addr) (vm₁ : Vm) (B : Pt), s.WarmedH vm₁ ∧ Stand p l e R s m args below meth c B.U B.locs B.cells B.slots ∧ PostX ⟨T.setVm vm₁, locs, cells, slots⟩ argsL.toArray q B ∧
      Steps p.tables e below (T.setTop g) ((B.U.setTop { g with stack := rest }).pushFrame (.throwing q))) := by
  obtain ⟨mk, methM, cM, hnamed, hmethM, -, -, -, -, -, -, hsigM⟩ := Cond.codeWith_spec hcode
  have hstatic : methM.isStatic = true := Cond.static_spec hnamed hmethM hstat
  obtain ⟨kP, hkP, -⟩ := className_of_methodNamed hnamed
  have hinitP : kP.init = .initialized := Cond.initialized_spec (findClass_of_methodNamed hnamed) hkP hinit
  obtain ⟨vm₁, X₁, hstep₁⟩ := X.invokestatic hexec hown hlink hnamed hmethM hstatic hkP hinitP hy (g := g) hg (argsL := argsL) (rest := rest) (hlen _ hsigM) hstack hdg
  rcases hK m meth c ⟨T.setVm vm₁, locs, cells, slots⟩ { g with stack := rest } (.invokestatic index) mk argsL.toArray X₁ hg hsize hdg hW (X₁.named hnamed) (hpre vm₁ X₁.warmed) with ⟨v, B, X', hpost, hsteps⟩ | ⟨q, B, X', hpost, hsteps⟩
  · exact Or.inl ⟨v, vm₁, B, X₁.warmed, X', hpost, fun target h => hstep₁ _ fun acts => by rw [doInvoke_state]; exact hsteps.trans h⟩
  · exact Or.inr ⟨q, vm₁, B, X₁.warmed, X', hpost, hstep₁ _ fun acts => by rw [doInvoke_state]; exact hsteps⟩
theorem vx_callVW (X : Stand p l e R s m args below meth c T locs cells slots) (hexec : p.tables.exec = Jvm.exec) {own C : String} {index : Nat} {y : MethodName} {bytes : ByteArray} {maxL : Nat} {ret : Option FieldType} {hh : List (Nat × Nat × Nat × Nat)}
    (hown : s.vm.findClass own = some m.cls) (hlink : (Cond.methodLink own index y).before args s = true) (hinst : (Cond.instanceMethod y).before args s = true) (hsel : (Cond.selects C y y).before args s = true)
    (hcode : (Cond.codeWith y bytes maxL ret hh).before args s = true) (hy : y.cls ≠ "java/lang/invoke/MethodHandle" ∧ y.cls ≠ "java/lang/invoke/VarHandle")
    {W9 : Nat} {Pre : Pt → Array Value → Prop} {Post : Pt → Array Value → Option Value → Pt → Prop} (hK : Back l R p e below s args y 3 W9 Pre Post)
    {b : Addr} {cellB : Cell} (hcell : T.heap[b]? = some cellB) (hobj : cellB.vm.isStatics = false) (hcls : s.vm.findClass C = some cellB.cls)
    {g : JFrame} (hg : g.method = m) (hsize : g.locals.size = c.maxLocals) {argsL rest : List Value} (hlen : ∀ sig, parseMethodDescriptor y.desc = some sig → argsL.length = sig.parameters.length)
    (hstack : g.stack = argsL.reverse ++ .ref b :: rest) (hW : 2 * g.monitorRoom + (rest.map fun v => v.category).sum ≤ W9) (hdg : decode c.code g.pc = .ok (.invokevirtual index, 3))
    (hpre : ∀ vm₁, s.WarmedH vm₁ → Pre ⟨T.setVm vm₁, locs, cells, slots⟩ (Value.ref b :: argsL).toArray) :
    ∃ (v : Option Value) (vm₁ : Vm) (B : Pt), s.WarmedH vm₁ ∧ Stand p l e R s m args below meth c B.U B.locs B.cells B.slots ∧ Post ⟨T.setVm vm₁, locs, cells, slots⟩ (Value.ref b :: argsL).toArray v B ∧
      ∀ target, Steps p.tables e below (B.U.setTop { g with pc := g.pc + 3, stack := v.toList ++ rest }) target → Steps p.tables e below (T.setTop g) target := by
  obtain ⟨mk, methM, hnamed, hmethM, hstM, habM⟩ := Cond.instanceMethod_spec hinst
  obtain ⟨m8, methM', cM, hn8, hmethM', -, -, -, -, -, -, hsigM⟩ := Cond.codeWith_spec hcode
  cases Option.some.inj (hn8.symm.trans hnamed)
  cases hmethM.symm.trans hmethM'
  obtain ⟨c2, r2, m2, q1, q2, q3, q4, kP, hkP, hkPi⟩ := Cond.selects_spec hsel
  cases hcls.symm.trans q1
  cases (State.methodFound?_of_named hnamed hy).symm.trans q2
  cases hnamed.symm.trans q3
  have hselP : selectMethod e.platform s.vm cellB.cls mk = .method mk := by rw [Launch.admits_selectMethod X.admits]; exact q4
  obtain ⟨vm₁, X₁, hstep₁⟩ := X.invokevirtual hexec hown hlink hnamed hmethM hstM hkP hkPi hy (a := b) (cell := cellB) hcell
    (fun z h => by rw [h] at hobj; cases hobj) hselP hmethM habM hkP hkPi (g := g) hg (argsL := argsL) (rest := rest) (hlen _ hsigM) hstack hdg
  obtain ⟨v, B, X', hpost, hsteps⟩ := hK m meth c ⟨T.setVm vm₁, locs, cells, slots⟩ { g with stack := rest } (.invokevirtual index) mk (Value.ref b :: argsL).toArray X₁ hg hsize hdg hW (X₁.named hnamed) (hpre vm₁ X₁.warmed)
  exact ⟨v, vm₁, B, X₁.warmed, X', hpost, fun target h => hstep₁ _ fun acts => by rw [doInvoke_state]; exact hsteps.trans h⟩
abbrev vx_CVW (R : Room) (s : State) (args : Array Value) (own C : String) (index : Nat) (y : MethodName) (bytes : ByteArray) (maxL : Nat) (ret : Option FieldType) (hh : List (Nat × Nat × Nat × Nat)) (ws : List Cond) (rm : Room) (mc ms n : Nat) : Prop :=
  (rm.cells = mc ∧ rm.slots = ms ∧ rm.frames + 1 ≤ R.frames ∧ 8 + (maxL + 11) + rm.locals ≤ R.locals ∧ (∀ w ∈ ws, ∀ (a' : Array Value) (U : State), s.WarmedH U.vm → w.before a' U = true) ∧ Cond.codeWith y bytes maxL ret hh ∈ ws) ∧
  (Cond.codeWith y bytes maxL ret hh).before args s = true ∧ (Cond.initialized y.cls).before args s = true ∧ (y.cls ≠ "java/lang/invoke/MethodHandle" ∧ y.cls ≠ "java/lang/invoke/VarHandle") ∧
  (∀ sig, parseMethodDescriptor y.desc = some sig → n = sig.parameters.length) ∧ (Cond.methodLink own index y).before args s = true ∧ (Cond.instanceMethod y).before args s = true ∧ (Cond.selects C y y).before args s = true
theorem vx_cwVW {own C : String} {index maxL mc ms : Nat} {y : MethodName} {bytes : ByteArray} {ret : Option FieldType} {hh : List (Nat × Nat × Nat × Nat)} {Ts ws ws' : List Cond} {rm : Room} (n : Nat) (ht : ∀ w ∈ Ts, w.before args s = true) (hT : GoodIn Ts (wsV own index C y ws)) (hw : ws = Cond.codeWith y bytes maxL ret hh :: ws') (hrc : rm.cells = mc) (hrs : rm.slots = ms)
    (hd : y.cls = C ∧ y.cls ≠ "java/lang/invoke/MethodHandle" ∧ y.cls ≠ "java/lang/invoke/VarHandle" ∧ (parseMethodDescriptor y.desc).map (fun d => d.parameters.length) = some n) (hR : rm.frames + 1 ≤ R.frames ∧ 8 + (maxL + 11) + rm.locals ≤ R.locals) :
    vx_CVW R s args own C index y bytes maxL ret hh ws rm mc ms n := by
  obtain ⟨hC, hd⟩ := hd
  subst hC
  have ok : ∀ w ∈ wsV own index y.cls y ws, w.before args s = true := fun w h => ht w (hT w h).1
  have hG : GoodIn Ts ws := fun w h => hT w (by unfold wsV; exact List.mem_append_right _ h)
  have hc : Cond.codeWith y bytes maxL ret hh ∈ ws := by rw [hw]; exact List.mem_cons_self
  refine ⟨⟨hrc, hrs, hR.1, hR.2, pay_in ht hG, hc⟩, ht _ (hG _ hc).1, ok _ (by simp [wsV]), ⟨hd.1, hd.2.1⟩, fun sig h => ?_, ok _ (by simp [wsV]), ok _ (by simp [wsV]), ok _ (by simp [wsV])⟩
  have h2 := hd.2.2
  rw [h] at h2
  exact (Option.some.inj h2).symm
theorem vx_runVW {y : MethodName} {bytes cc : ByteArray} {maxL nL mc ms n index : Nat} {ret : Option FieldType} {hh : List (Nat × Nat × Nat × Nat)} {ws : List Cond} {rm : Room} {Pc : Array Value → State → Prop} {Qc : Array Value → State → Outcome → State → Prop} {free : Addr → Prop} {Ts : List Cond} {own C : String} {b : Addr} {As rest : List Value} {g : JFrame}
    (S : CallFix p m c cc nL s args Ts own) (hM : Met l y ws rm Pc Qc mc ms free) (cw : vx_CVW R s args own C index y bytes maxL ret hh ws rm mc ms n) (hp : PreV s H C b Pc As)
    (hg : g.method = m) (hn : As.length = n) (hsize : g.locals.size = nL) (hstack : g.stack = As.reverse ++ .ref b :: rest) (hW : 2 * g.monitorRoom + (rest.map fun v => v.category).sum ≤ 8) (hdg : decode cc g.pc = .ok (.invokevirtual index, 3)) (hf : cells + mc ≤ R.cells ∧ slots + ms ≤ R.slots) :
    va_Run p l e R s m args below meth c H locs cells slots mc ms g rest (Qc (Value.ref b :: As).toArray) free := by
  obtain ⟨⟨hrc, hrs, hfr, hlo, hws, hcw⟩, hcode, hini, hy, hlen, hl, hin, hse⟩ := cw
  have hK : Back l R p e below s args y 3 8 (PreOf R mc ms Pc) (PostOf Qc mc ms free) := va_backW (hh := hh) (bytes := bytes) (maxL := maxL) (ret := ret) hM hp.1 hrc hrs hfr hlo hws hcw (fun a' U hW => word_at hW (Or.inl (by first | rfl | simp [Cond.onTables, Cond.keeps, Cond.steady])) hini)
  obtain ⟨hx, hb, hml, ho, -⟩ := S
  obtain ⟨-, ⟨cellB, hcB, hoB, hclB⟩, hPc⟩ := hp
  intro T hT X
  obtain ⟨v, vm₁, ⟨U', l2, c2, s2⟩, hW₁, X', ⟨g', mk, t, L, e1, e2, hq, h1, hL, h2, h3⟩, st⟩ := vx_callVW X hx (C := C) (hh := hh) (bytes := bytes) (maxL := maxL) (ret := ret) ho hl hin hse hcode hy hK (by rw [hT]; exact hcB) hoB hclB hg (hsize.trans hml.symm) (argsL := As) (rest := rest) (fun sig h => hn.trans (hlen sig h)) hstack hW (by rw [hb]; exact hdg)
    (fun vm₁ hW₁ => ⟨hf.1, hf.2, hPc (T.setVm vm₁) hT hW₁⟩)
  dsimp only [Pt.U, Pt.locs, Pt.cells, Pt.slots] at X' e1 e2 h1 h2 h3 st
  subst h1; subst h2; subst h3
  exact ⟨v, (T.setVm vm₁).calling g' mk (Value.ref b :: As).toArray, t, U', L, hT, X', hL, e1, e2, hq, st⟩
section
variable {y : MethodName} {bytes cc : ByteArray} {maxL nL mc ms n index : Nat} {ret : Option FieldType} {ws : List Cond} {rm : Room} {Pc : Array Value → State → Prop} {Qc : Array Value → State → Outcome → State → Prop} {XC : String → State → State → Prop} {free : Addr → Prop} {Ts : List Cond} {own C : String} {b : Addr} {As rest : List Value} {g : JFrame}
theorem vx_runVX {hh : List (Nat × Nat × Nat × Nat)} (S : CallFix p m c cc nL s args Ts own) (hM : vx_Met l y ws rm Pc Qc XC mc ms free) (cw : vx_CVW R s args own C index y bytes maxL ret hh ws rm mc ms n) (hp : PreV s H C b Pc As)
    (hg : g.method = m) (hn : As.length = n) (hsize : g.locals.size = nL) (hstack : g.stack = As.reverse ++ .ref b :: rest) (hW : 2 * g.monitorRoom + (rest.map fun v => v.category).sum ≤ 8) (hdg : decode cc g.pc = .ok (.invokevirtual index, 3)) (hf : cells + mc ≤ R.cells ∧ slots + ms ≤ R.slots) :
    vx_Run p l e R s m args below meth c H locs cells slots mc ms g rest (Qc (Value.ref b :: As).toArray) XC free := by
  obtain ⟨⟨hrc, hrs, hfr, hlo, hws, hcw⟩, hcode, hini, hy, hlen, hl, hin, hse⟩ := cw
  have hK : vx_Back l R p e below s args y 3 8 (PreOf R mc ms Pc) (PostOf Qc mc ms free) (vx_Post XC mc ms free) := vx_backW (hh := hh) (bytes := bytes) (maxL := maxL) (ret := ret) hM hp.1 hrc hrs hfr hlo hws hcw (fun a' U hW => word_at hW (Or.inl (by first | rfl | simp [Cond.onTables, Cond.keeps, Cond.steady])) hini)
  obtain ⟨hx, hb, hml, ho, -⟩ := S
  obtain ⟨-, ⟨cellB, hcB, hoB, hclB⟩, hPc⟩ := hp
  intro T hT X
  rcases vx_callVX X hx (C := C) (hh := hh) (bytes := bytes) (maxL := maxL) (ret := ret) ho hl hin hse hcode hy hK (by rw [hT]; exact hcB) hoB hclB hg (hsize.trans hml.symm) (argsL := As) (rest := rest) (fun sig h => hn.trans (hlen sig h)) hstack hW (by rw [hb]; exact hdg)
    (fun vm₁ hW₁ => ⟨hf.1, hf.2, hPc (T.setVm vm₁) hT hW₁⟩) with ⟨v, vm₁, ⟨U', l2, c2, s2⟩, hW₁, X', ⟨g', mk, t, L, e1, e2, hq, h1, hL, h2, h3⟩, st⟩ | ⟨q, vm₁, ⟨U', l2, c2, s2⟩, hW₁, X', ⟨g', mk, t, L, E, ce, e1, e2, hq, hce, hcv, hcl, h1, hL, h2, h3⟩, st⟩
  · dsimp only [Pt.U, Pt.locs, Pt.cells, Pt.slots] at X' e1 e2 h1 h2 h3 st
    subst h1; subst h2; subst h3
    exact Or.inl ⟨v, (T.setVm vm₁).calling g' mk (Value.ref b :: As).toArray, t, U', L, hT, X', hL, e1, e2, hq, st⟩
  · dsimp only [Pt.U, Pt.locs, Pt.cells, Pt.slots] at X' e1 e2 h1 h2 h3 st hcl
    subst h1; subst h2; subst h3
    exact Or.inr ⟨q, (T.setVm vm₁).calling g' mk (Value.ref b :: As).toArray, t, U', L, E, ce, hT, X', hL, e1, e2, hq, hce, hcv, vx_cls hW₁ hcl, st⟩
theorem vx_runSX {hh : List (Nat × Nat × Nat × Nat)} (S : CallFix p m c cc nL s args Ts own) (hM : vx_Met l y ws rm Pc Qc XC mc ms free) (cw : vx_CSW R s args own index y bytes maxL ret hh ws rm mc ms n) (hp : PreS s H Pc As)
    (hg : g.method = m) (hn : As.length = n) (hsize : g.locals.size = nL) (hstack : g.stack = As.reverse ++ rest) (hW : 2 * g.monitorRoom + (rest.map fun v => v.category).sum ≤ 8) (hdg : decode cc g.pc = .ok (.invokestatic index, 3)) (hf : cells + mc ≤ R.cells ∧ slots + ms ≤ R.slots) :
    vx_Run p l e R s m args below meth c H locs cells slots mc ms g rest (Qc As.toArray) XC free := by
  obtain ⟨⟨hrc, hrs, hfr, hlo, hws, hcw⟩, hcode, hini, hy, hlen, hl, hstt⟩ := cw
  have hK : vx_Back l R p e below s args y 3 8 (PreOf R mc ms Pc) (PostOf Qc mc ms free) (vx_Post XC mc ms free) := vx_backW (hh := hh) (bytes := bytes) (maxL := maxL) (ret := ret) hM hp.1 hrc hrs hfr hlo hws hcw (fun a' U hW => word_at hW (Or.inl (by first | rfl | simp [Cond.onTables, Cond.keeps, Cond.steady])) hini)
  obtain ⟨hx, hb, hml, ho, -⟩ := S
  intro T hT X
  rcases vx_callSX X hx (hh := hh) (bytes := bytes) (maxL := maxL) (ret := ret) ho hl hstt hini hcode hy hK hg (hsize.trans hml.symm) (argsL := As) (rest := rest) (fun sig h => hn.trans (hlen sig h)) hstack hW (by rw [hb]; exact hdg)
    (fun vm₁ hW₁ => ⟨hf.1, hf.2, hp.2 (T.setVm vm₁) hT hW₁⟩) with ⟨v, vm₁, ⟨U', l2, c2, s2⟩, hW₁, X', ⟨g', mk, t, L, e1, e2, hq, h1, hL, h2, h3⟩, st⟩ | ⟨q, vm₁, ⟨U', l2, c2, s2⟩, hW₁, X', ⟨g', mk, t, L, E, ce, e1, e2, hq, hce, hcv, hcl, h1, hL, h2, h3⟩, st⟩
  · dsimp only [Pt.U, Pt.locs, Pt.cells, Pt.slots] at X' e1 e2 h1 h2 h3 st
    subst h1; subst h2; subst h3
    exact Or.inl ⟨v, (T.setVm vm₁).calling g' mk As.toArray, t, U', L, hT, X', hL, e1, e2, hq, st⟩
  · dsimp only [Pt.U, Pt.locs, Pt.cells, Pt.slots] at X' e1 e2 h1 h2 h3 st hcl
    subst h1; subst h2; subst h3
    exact Or.inr ⟨q, (T.setVm vm₁).calling g' mk As.toArray, t, U', L, E, ce, hT, X', hL, e1, e2, hq, hce, hcv, vx_cls hW₁ hcl, st⟩
end
end VXH
theorem vx_ofWH {l : Launch} {y : MethodName} {ws ws' : List Cond} {rm : Room} {Pc : Array Value → State → Prop} {Qc : Array Value → State → Outcome → State → Prop} {XC : String → State → State → Prop} {mc ms : Nat} {free : Addr → Prop} {cc : ByteArray} {maxL : Nat} {ret : Option FieldType} {hh : List (Nat × Nat × Nat × Nat)}
    (hy : plainName y.cls = true) (hw : ws = Cond.codeWith y cc maxL ret hh :: ws')
    (body : ∀ p e s m args below meth c s₁, BodyLoose p l y (headSpec ws rm) cc maxL ret e s m args below meth c s₁ → c.maxLocals = maxL → Pc args s →
      W p l e (headSpec ws rm).room s m args below meth c s.heap [] 0 0 (vx_MQ below Qc XC args s mc ms free) (entryFrame m args maxL)) : vx_Met l y ws rm Pc Qc XC mc ms free := by
  refine MetFree.of_bodyS (code := cc) (maxLocals := maxL) (ret := ret) hy ?_ ?_
  · intro args s m h hn
    obtain ⟨m9, meth, c, hn9, h1, h2, h3, h4, -, h5, h6, -⟩ := Cond.codeWith_spec (atoms_spec (ws := ws) h _ (by rw [hw]; exact List.mem_cons_self))
    cases hn.symm.trans hn9
    exact ⟨meth, c, h1, h2, h3, h4, h5, h6⟩
  · intro p e s m args below meth c s₁ B hml hP _
    have hh0 : s₁.heap = s.heap := by rw [B.state]; rfl
    obtain ⟨t, a1, o, b1, b2, b3⟩ := body p e s m args below meth c s₁ B hml hP s₁ hh0 (Stand.of_body B)
    exact ⟨t, o, a1, b1, b2, b3⟩
/-! ===== END ===== -/
end
section
/-! ===== BEGIN printed: names, fields, word lists, decode rows ===== -/
def RX0 : String := "Bandwidthclub$Book"
def TX0 : u_T := fun k => match k with
  | 0 => ("Bandwidthclub$Book", "owner", "I", true)
  | 1 => ("Bandwidthclub$Book", "balances", "[I", true)
  | _ => ("Bandwidthclub$Book", "account", "I", false)
def tyX0 : Nat → FieldType := fun k => match k with
  | 0 => .int
  | 1 => .array .int
  | _ => .int
abbrev wsX00 : List Cond := u_ws RX0 TX0 3
theorem nmX0 : ∀ a, a < 3 → ∀ b, b < 3 → a ≠ b → (TX0 a).2.1 ≠ (TX0 b).2.1 := by decide +kernel
theorem tyX0_ok : ∀ k, k < 3 → parseFieldDescriptor (TX0 k).2.2.1 = some (tyX0 k) := by decide +kernel
abbrev cX0_init : ByteArray := prog_2_method_1_code
def yX0_init : MethodName := ⟨RX0, "<init>", "(I)V"⟩
abbrev cX0_balanceWith : ByteArray := prog_2_method_2_code
def yX0_balanceWith : MethodName := ⟨RX0, "balanceWith", "(I)I"⟩
abbrev cX0_enterLoans : ByteArray := prog_2_method_3_code
def yX0_enterLoans : MethodName := ⟨RX0, "enterLoans", "(LBandwidthclub$Entry;)V"⟩
abbrev cX0_changeBalance : ByteArray := prog_2_method_4_code
def yX0_changeBalance : MethodName := ⟨RX0, "changeBalance", "(II)V"⟩
abbrev cX0_settle : ByteArray := prog_2_method_5_code
def yX0_settle : MethodName := ⟨RX0, "settle", "(I)V"⟩
def RX1 : String := "Bandwidthclub$Entry"
def TX1 : u_T := fun k => match k with
  | 0 => ("Bandwidthclub$Entry", "way", "LBandwidthclub$Way;", true)
  | 1 => ("Bandwidthclub$Entry", "hour", "I", true)
  | 2 => ("Bandwidthclub$Entry", "who", "I", true)
  | 3 => ("Bandwidthclub$Entry", "units", "I", true)
  | 4 => ("Bandwidthclub$Entry", "lines", "[I", true)
  | _ => ("Bandwidthclub$Entry", "holder", "I", false)
def tyX1 : Nat → FieldType := fun k => match k with
  | 0 => .object "Bandwidthclub$Way"
  | 1 => .int
  | 2 => .int
  | 3 => .int
  | 4 => .array .int
  | _ => .int
abbrev wsX10 : List Cond := u_ws RX1 TX1 6
theorem nmX1 : ∀ a, a < 6 → ∀ b, b < 6 → a ≠ b → (TX1 a).2.1 ≠ (TX1 b).2.1 := by decide +kernel
theorem tyX1_ok : ∀ k, k < 6 → parseFieldDescriptor (TX1 k).2.2.1 = some (tyX1 k) := by decide +kernel
abbrev cX1_init : ByteArray := prog_3_method_1_code
def yX1_init : MethodName := ⟨RX1, "<init>", "(LBandwidthclub$Way;III)V"⟩
abbrev cX1_addLine : ByteArray := prog_3_method_2_code
def yX1_addLine : MethodName := ⟨RX1, "addLine", "(II)V"⟩
abbrev cX1_unitsOver : ByteArray := prog_3_method_3_code
def yX1_unitsOver : MethodName := ⟨RX1, "unitsOver", "(I)I"⟩
def RX2 : String := "Bandwidthclub$Film"
def TX2 : u_T := fun k => match k with
  | 0 => ("Bandwidthclub$Film", "size", "I", true)
  | _ => ("Bandwidthclub$Film", "worth", "I", false)
def tyX2 : Nat → FieldType := fun k => match k with
  | 0 => .int
  | _ => .int
abbrev wsX20 : List Cond := u_ws RX2 TX2 2
theorem nmX2 : ∀ a, a < 2 → ∀ b, b < 2 → a ≠ b → (TX2 a).2.1 ≠ (TX2 b).2.1 := by decide +kernel
theorem tyX2_ok : ∀ k, k < 2 → parseFieldDescriptor (TX2 k).2.2.1 = some (tyX2 k) := by decide +kernel
abbrev cX2_init : ByteArray := prog_4_method_1_code
def yX2_init : MethodName := ⟨RX2, "<init>", "(I)V"⟩
def RX3 : String := "Bandwidthclub$Member"
def TX3 : u_T := fun k => match k with
  | 0 => ("Bandwidthclub$Member", "number", "I", true)
  | 1 => ("Bandwidthclub$Member", "units", "I", true)
  | 2 => ("Bandwidthclub$Member", "room", "I", true)
  | 3 => ("Bandwidthclub$Member", "book", "LBandwidthclub$Book;", true)
  | 4 => ("Bandwidthclub$Member", "held", "[Z", true)
  | 5 => ("Bandwidthclub$Member", "isInClub", "Z", false)
  | 6 => ("Bandwidthclub$Member", "left", "I", false)
  | _ => ("Bandwidthclub$Member", "fetches", "I", false)
def tyX3 : Nat → FieldType := fun k => match k with
  | 0 => .int
  | 1 => .int
  | 2 => .int
  | 3 => .object "Bandwidthclub$Book"
  | 4 => .array .boolean
  | 5 => .boolean
  | 6 => .int
  | _ => .int
abbrev wsX30 : List Cond := u_ws RX3 TX3 8
theorem nmX3 : ∀ a, a < 8 → ∀ b, b < 8 → a ≠ b → (TX3 a).2.1 ≠ (TX3 b).2.1 := by decide +kernel
theorem tyX3_ok : ∀ k, k < 8 → parseFieldDescriptor (TX3 k).2.2.1 = some (tyX3 k) := by decide +kernel
abbrev cX3_init : ByteArray := prog_5_method_1_code
def yX3_init : MethodName := ⟨RX3, "<init>", "(III)V"⟩
abbrev cX3_holds : ByteArray := prog_5_method_2_code
def yX3_holds : MethodName := ⟨RX3, "holds", "(I)Z"⟩
abbrev cX3_setHeld : ByteArray := prog_5_method_3_code
def yX3_setHeld : MethodName := ⟨RX3, "setHeld", "(IZ)V"⟩
abbrev cX3_makeLineWhole : ByteArray := prog_5_method_4_code
def yX3_makeLineWhole : MethodName := ⟨RX3, "makeLineWhole", "()V"⟩
abbrev cX3_goAway : ByteArray := prog_5_method_5_code
def yX3_goAway : MethodName := ⟨RX3, "goAway", "()V"⟩
def RX4 : String := "Bandwidthclub$Proposal"
def TX4 : u_T := fun k => match k with
  | 0 => ("Bandwidthclub$Proposal", "rule", "I", true)
  | 1 => ("Bandwidthclub$Proposal", "value", "I", true)
  | 2 => ("Bandwidthclub$Proposal", "votes", "[I", true)
  | 3 => ("Bandwidthclub$Proposal", "state", "I", false)
  | _ => ("Bandwidthclub$Proposal", "forceHour", "I", false)
def tyX4 : Nat → FieldType := fun k => match k with
  | 0 => .int
  | 1 => .int
  | 2 => .array .int
  | 3 => .int
  | _ => .int
abbrev wsX40 : List Cond := u_ws RX4 TX4 5
theorem nmX4 : ∀ a, a < 5 → ∀ b, b < 5 → a ≠ b → (TX4 a).2.1 ≠ (TX4 b).2.1 := by decide +kernel
theorem tyX4_ok : ∀ k, k < 5 → parseFieldDescriptor (TX4 k).2.2.1 = some (tyX4 k) := by decide +kernel
abbrev cX4_init : ByteArray := prog_6_method_1_code
def yX4_init : MethodName := ⟨RX4, "<init>", "(II)V"⟩
abbrev cX4_setVote : ByteArray := prog_6_method_2_code
def yX4_setVote : MethodName := ⟨RX4, "setVote", "(II)V"⟩
abbrev cX4_countVotes : ByteArray := prog_6_method_3_code
def yX4_countVotes : MethodName := ⟨RX4, "countVotes", "(I)I"⟩
abbrev cX4_decide : ByteArray := prog_6_method_4_code
def yX4_decide : MethodName := ⟨RX4, "decide", "(II)V"⟩
abbrev cX4_isInForce : ByteArray := prog_6_method_5_code
def yX4_isInForce : MethodName := ⟨RX4, "isInForce", "(I)Z"⟩
def RX5 : String := "Bandwidthclub$Way"
def TX5 : u_T := fun k => match k with
  | _ => ("", "", "", false)
def tyX5 : Nat → FieldType := fun k => match k with
  | _ => .int
abbrev wsX50 : List Cond := u_ws RX5 TX5 0
theorem nmX5 : ∀ a, a < 0 → ∀ b, b < 0 → a ≠ b → (TX5 a).2.1 ≠ (TX5 b).2.1 := by decide +kernel
theorem tyX5_ok : ∀ k, k < 0 → parseFieldDescriptor (TX5 k).2.2.1 = some (tyX5 k) := by decide +kernel
def RX6 : String := "Bandwidthclub"
def TX6 : u_T := fun k => match k with
  | 0 => ("Bandwidthclub", "members", "Ljava/util/ArrayList;", true)
  | 1 => ("Bandwidthclub", "films", "Ljava/util/ArrayList;", true)
  | 2 => ("Bandwidthclub", "proposals", "Ljava/util/ArrayList;", true)
  | 3 => ("Bandwidthclub", "log", "Ljava/util/ArrayList;", true)
  | 4 => ("Bandwidthclub", "now", "I", false)
  | _ => ("Bandwidthclub", "fetches", "I", false)
def tyX6 : Nat → FieldType := fun k => match k with
  | 0 => .object "java/util/ArrayList"
  | 1 => .object "java/util/ArrayList"
  | 2 => .object "java/util/ArrayList"
  | 3 => .object "java/util/ArrayList"
  | 4 => .int
  | _ => .int
abbrev wsX60 : List Cond := u_ws RX6 TX6 6
theorem nmX6 : ∀ a, a < 6 → ∀ b, b < 6 → a ≠ b → (TX6 a).2.1 ≠ (TX6 b).2.1 := by decide +kernel
theorem tyX6_ok : ∀ k, k < 6 → parseFieldDescriptor (TX6 k).2.2.1 = some (tyX6 k) := by decide +kernel
abbrev cX6_init : ByteArray := prog_1_method_1_code
def yX6_init : MethodName := ⟨RX6, "<init>", "()V"⟩
abbrev cX6_join : ByteArray := prog_1_method_2_code
def yX6_join : MethodName := ⟨RX6, "join", "(II)I"⟩
abbrev cX6_leave : ByteArray := prog_1_method_3_code
def yX6_leave : MethodName := ⟨RX6, "leave", "(I)I"⟩
abbrev cX6_film : ByteArray := prog_1_method_4_code
def yX6_film : MethodName := ⟨RX6, "film", "(I)I"⟩
abbrev cX6_fetch : ByteArray := prog_1_method_5_code
def yX6_fetch : MethodName := ⟨RX6, "fetch", "(II)I"⟩
abbrev cX6_pass : ByteArray := prog_1_method_6_code
def yX6_pass : MethodName := ⟨RX6, "pass", "(I)I"⟩
abbrev cX6_propose : ByteArray := prog_1_method_7_code
def yX6_propose : MethodName := ⟨RX6, "propose", "(III)I"⟩
abbrev cX6_vote : ByteArray := prog_1_method_8_code
def yX6_vote : MethodName := ⟨RX6, "vote", "(IIZ)I"⟩
abbrev cX6_rule : ByteArray := prog_1_method_9_code
def yX6_rule : MethodName := ⟨RX6, "rule", "(I)I"⟩
abbrev cX6_proposal : ByteArray := prog_1_method_10_code
def yX6_proposal : MethodName := ⟨RX6, "proposal", "(II)I"⟩
abbrev cX6_hour : ByteArray := prog_1_method_11_code
def yX6_hour : MethodName := ⟨RX6, "hour", "()I"⟩
abbrev cX6_member : ByteArray := prog_1_method_12_code
def yX6_member : MethodName := ⟨RX6, "member", "(II)I"⟩
abbrev cX6_has : ByteArray := prog_1_method_13_code
def yX6_has : MethodName := ⟨RX6, "has", "(II)Z"⟩
abbrev cX6_owes : ByteArray := prog_1_method_14_code
def yX6_owes : MethodName := ⟨RX6, "owes", "(II)I"⟩
abbrev cX6_worth : ByteArray := prog_1_method_15_code
def yX6_worth : MethodName := ⟨RX6, "worth", "(I)I"⟩
abbrev cX6_accountAnew : ByteArray := prog_1_method_16_code
def yX6_accountAnew : MethodName := ⟨RX6, "accountAnew", "(I)I"⟩
abbrev cX6_owesAnew : ByteArray := prog_1_method_17_code
def yX6_owesAnew : MethodName := ⟨RX6, "owesAnew", "(II)I"⟩
abbrev cX6_told : ByteArray := prog_1_method_18_code
def yX6_told : MethodName := ⟨RX6, "told", "(I)C"⟩
abbrev cX6_memberAt : ByteArray := prog_1_method_19_code
def yX6_memberAt : MethodName := ⟨RX6, "memberAt", "(I)LBandwidthclub$Member;"⟩
abbrev cX6_memberInClub : ByteArray := prog_1_method_20_code
def yX6_memberInClub : MethodName := ⟨RX6, "memberInClub", "(I)LBandwidthclub$Member;"⟩
abbrev cX6_filmAt : ByteArray := prog_1_method_21_code
def yX6_filmAt : MethodName := ⟨RX6, "filmAt", "(I)LBandwidthclub$Film;"⟩
abbrev cX6_proposalAt : ByteArray := prog_1_method_22_code
def yX6_proposalAt : MethodName := ⟨RX6, "proposalAt", "(I)LBandwidthclub$Proposal;"⟩
abbrev cX6_checkRule : ByteArray := prog_1_method_23_code
def yX6_checkRule : MethodName := ⟨RX6, "checkRule", "(I)V"⟩
abbrev cX6_checkWhat : ByteArray := prog_1_method_24_code
def yX6_checkWhat : MethodName := ⟨RX6, "checkWhat", "(I)V"⟩
abbrev cX6_planFetch : ByteArray := prog_1_method_25_code
def yX6_planFetch : MethodName := ⟨RX6, "planFetch", "(LBandwidthclub$Member;II)LBandwidthclub$Entry;"⟩
abbrev cX6_planFromOutside : ByteArray := prog_1_method_26_code
def yX6_planFromOutside : MethodName := ⟨RX6, "planFromOutside", "(LBandwidthclub$Member;I)LBandwidthclub$Entry;"⟩
abbrev cX6_withMostLeft : ByteArray := prog_1_method_27_code
def yX6_withMostLeft : MethodName := ⟨RX6, "withMostLeft", "(I[I)I"⟩
abbrev cX6_leftBeside : ByteArray := prog_1_method_28_code
def yX6_leftBeside : MethodName := ⟨RX6, "leftBeside", "(I[I)I"⟩
abbrev cX6_leftOfAll : ByteArray := prog_1_method_29_code
def yX6_leftOfAll : MethodName := ⟨RX6, "leftOfAll", "()I"⟩
abbrev cX6_useLines : ByteArray := prog_1_method_30_code
def yX6_useLines : MethodName := ⟨RX6, "useLines", "([I)V"⟩
abbrev cX6_putIntoCache : ByteArray := prog_1_method_31_code
def yX6_putIntoCache : MethodName := ⟨RX6, "putIntoCache", "(LBandwidthclub$Member;ILBandwidthclub$Film;)V"⟩
abbrev cX6_cachedUnits : ByteArray := prog_1_method_32_code
def yX6_cachedUnits : MethodName := ⟨RX6, "cachedUnits", "(LBandwidthclub$Member;I)I"⟩
abbrev cX6_leastWorthOf : ByteArray := prog_1_method_33_code
def yX6_leastWorthOf : MethodName := ⟨RX6, "leastWorthOf", "(LBandwidthclub$Member;)I"⟩
abbrev cX6_countInClub : ByteArray := prog_1_method_34_code
def yX6_countInClub : MethodName := ⟨RX6, "countInClub", "()I"⟩
abbrev cX6_valueIn : ByteArray := prog_1_method_35_code
def yX6_valueIn : MethodName := ⟨RX6, "valueIn", "(II)I"⟩
abbrev cX6_keepInLog : ByteArray := prog_1_method_36_code
def yX6_keepInLog : MethodName := ⟨RX6, "keepInLog", "(LBandwidthclub$Entry;)V"⟩
abbrev cX6_bookAnew : ByteArray := prog_1_method_37_code
def yX6_bookAnew : MethodName := ⟨RX6, "bookAnew", "(I)LBandwidthclub$Book;"⟩
abbrev cX6_enter : ByteArray := prog_1_method_38_code
def yX6_enter : MethodName := ⟨RX6, "enter", "(LBandwidthclub$Entry;LBandwidthclub$Book;)V"⟩
abbrev cX6_costOf : ByteArray := prog_1_method_39_code
def yX6_costOf : MethodName := ⟨RX6, "costOf", "(LBandwidthclub$Entry;)I"⟩
abbrev cX6_isEvening : ByteArray := prog_1_method_40_code
def yX6_isEvening : MethodName := ⟨RX6, "isEvening", "(I)Z"⟩
abbrev cX6_tellMember : ByteArray := prog_1_method_41_code
def yX6_tellMember : MethodName := ⟨RX6, "tellMember", "(LBandwidthclub$Member;Ljava/lang/StringBuilder;)V"⟩
abbrev cX6_tellNumber : ByteArray := prog_1_method_42_code
def yX6_tellNumber : MethodName := ⟨RX6, "tellNumber", "(ILjava/lang/StringBuilder;)V"⟩
def RX7 : String := "BandwidthclubModel"
def TX7 : u_T := fun k => match k with
  | 0 => ("BandwidthclubModel", "thrown", "I", false)
  | 1 => ("BandwidthclubModel", "hour", "I", false)
  | 2 => ("BandwidthclubModel", "members", "I", false)
  | 3 => ("BandwidthclubModel", "isIn", "[Z", true)
  | 4 => ("BandwidthclubModel", "units", "[I", true)
  | 5 => ("BandwidthclubModel", "left", "[I", true)
  | 6 => ("BandwidthclubModel", "room", "[I", true)
  | 7 => ("BandwidthclubModel", "accounts", "[I", true)
  | 8 => ("BandwidthclubModel", "fetches", "[I", true)
  | 9 => ("BandwidthclubModel", "debts", "[I", true)
  | 10 => ("BandwidthclubModel", "films", "I", false)
  | 11 => ("BandwidthclubModel", "size", "[I", true)
  | 12 => ("BandwidthclubModel", "worths", "[I", true)
  | 13 => ("BandwidthclubModel", "hasFilm", "[Z", true)
  | 14 => ("BandwidthclubModel", "fetched", "I", false)
  | 15 => ("BandwidthclubModel", "proposals", "I", false)
  | 16 => ("BandwidthclubModel", "state", "[I", true)
  | 17 => ("BandwidthclubModel", "about", "[I", true)
  | 18 => ("BandwidthclubModel", "value", "[I", true)
  | 19 => ("BandwidthclubModel", "since", "[I", true)
  | 20 => ("BandwidthclubModel", "votes", "[I", true)
  | 21 => ("BandwidthclubModel", "hadFor", "[I", true)
  | _ => ("BandwidthclubModel", "hadAgainst", "[I", true)
def tyX7 : Nat → FieldType := fun k => match k with
  | 0 => .int
  | 1 => .int
  | 2 => .int
  | 3 => .array .boolean
  | 4 => .array .int
  | 5 => .array .int
  | 6 => .array .int
  | 7 => .array .int
  | 8 => .array .int
  | 9 => .array .int
  | 10 => .int
  | 11 => .array .int
  | 12 => .array .int
  | 13 => .array .boolean
  | 14 => .int
  | 15 => .int
  | 16 => .array .int
  | 17 => .array .int
  | 18 => .array .int
  | 19 => .array .int
  | 20 => .array .int
  | 21 => .array .int
  | _ => .array .int
abbrev wsX70 : List Cond := u_ws RX7 TX7 23
theorem nmX7 : ∀ a, a < 23 → ∀ b, b < 23 → a ≠ b → (TX7 a).2.1 ≠ (TX7 b).2.1 := by decide +kernel
theorem tyX7_ok : ∀ k, k < 23 → parseFieldDescriptor (TX7 k).2.2.1 = some (tyX7 k) := by decide +kernel
abbrev cX7_init : ByteArray := prog_9_method_1_code
def yX7_init : MethodName := ⟨RX7, "<init>", "()V"⟩
abbrev cX7_thrown : ByteArray := prog_9_method_2_code
def yX7_thrown : MethodName := ⟨RX7, "thrown", "()I"⟩
abbrev cX7_in : ByteArray := prog_9_method_3_code
def yX7_in : MethodName := ⟨RX7, "in", "(III)Z"⟩
abbrev cX7_refused : ByteArray := prog_9_method_4_code
def yX7_refused : MethodName := ⟨RX7, "refused", "(I)Z"⟩
abbrev cX7_isMember : ByteArray := prog_9_method_5_code
def yX7_isMember : MethodName := ⟨RX7, "isMember", "(I)Z"⟩
abbrev cX7_isFilm : ByteArray := prog_9_method_6_code
def yX7_isFilm : MethodName := ⟨RX7, "isFilm", "(I)Z"⟩
abbrev cX7_isRule : ByteArray := prog_9_method_7_code
def yX7_isRule : MethodName := ⟨RX7, "isRule", "(I)Z"⟩
abbrev cX7_valueOf : ByteArray := prog_9_method_8_code
def yX7_valueOf : MethodName := ⟨RX7, "valueOf", "(I)I"⟩
abbrev cX7_price : ByteArray := prog_9_method_9_code
def yX7_price : MethodName := ⟨RX7, "price", "()I"⟩
abbrev cX7_many : ByteArray := prog_9_method_10_code
def yX7_many : MethodName := ⟨RX7, "many", "()I"⟩
abbrev cX7_voted : ByteArray := prog_9_method_11_code
def yX7_voted : MethodName := ⟨RX7, "voted", "(II)I"⟩
abbrev cX7_decide : ByteArray := prog_9_method_12_code
def yX7_decide : MethodName := ⟨RX7, "decide", "(I)V"⟩
abbrev cX7_join : ByteArray := prog_9_method_13_code
def yX7_join : MethodName := ⟨RX7, "join", "(II)I"⟩
abbrev cX7_leave : ByteArray := prog_9_method_14_code
def yX7_leave : MethodName := ⟨RX7, "leave", "(I)I"⟩
abbrev cX7_film : ByteArray := prog_9_method_15_code
def yX7_film : MethodName := ⟨RX7, "film", "(I)I"⟩
abbrev cX7_used : ByteArray := prog_9_method_16_code
def yX7_used : MethodName := ⟨RX7, "used", "(I)I"⟩
abbrev cX7_most : ByteArray := prog_9_method_17_code
def yX7_most : MethodName := ⟨RX7, "most", "(II)I"⟩
abbrev cX7_all : ByteArray := prog_9_method_18_code
def yX7_all : MethodName := ⟨RX7, "all", "()I"⟩
abbrev cX7_owe : ByteArray := prog_9_method_19_code
def yX7_owe : MethodName := ⟨RX7, "owe", "(III)V"⟩
abbrev cX7_bring : ByteArray := prog_9_method_20_code
def yX7_bring : MethodName := ⟨RX7, "bring", "(II)V"⟩
abbrev cX7_least : ByteArray := prog_9_method_21_code
def yX7_least : MethodName := ⟨RX7, "least", "(III)I"⟩
abbrev cX7_put : ByteArray := prog_9_method_22_code
def yX7_put : MethodName := ⟨RX7, "put", "(II)V"⟩
abbrev cX7_fetch : ByteArray := prog_9_method_23_code
def yX7_fetch : MethodName := ⟨RX7, "fetch", "(II)I"⟩
abbrev cX7_pass : ByteArray := prog_9_method_24_code
def yX7_pass : MethodName := ⟨RX7, "pass", "(I)I"⟩
abbrev cX7_propose : ByteArray := prog_9_method_25_code
def yX7_propose : MethodName := ⟨RX7, "propose", "(III)I"⟩
abbrev cX7_isProposal : ByteArray := prog_9_method_26_code
def yX7_isProposal : MethodName := ⟨RX7, "isProposal", "(I)Z"⟩
abbrev cX7_vote : ByteArray := prog_9_method_27_code
def yX7_vote : MethodName := ⟨RX7, "vote", "(IIZ)I"⟩
abbrev cX7_rule : ByteArray := prog_9_method_28_code
def yX7_rule : MethodName := ⟨RX7, "rule", "(I)I"⟩
abbrev cX7_proposal : ByteArray := prog_9_method_29_code
def yX7_proposal : MethodName := ⟨RX7, "proposal", "(II)I"⟩
abbrev cX7_hour : ByteArray := prog_9_method_30_code
def yX7_hour : MethodName := ⟨RX7, "hour", "()I"⟩
abbrev cX7_member : ByteArray := prog_9_method_31_code
def yX7_member : MethodName := ⟨RX7, "member", "(II)I"⟩
abbrev cX7_has : ByteArray := prog_9_method_32_code
def yX7_has : MethodName := ⟨RX7, "has", "(II)Z"⟩
abbrev cX7_owes : ByteArray := prog_9_method_33_code
def yX7_owes : MethodName := ⟨RX7, "owes", "(II)I"⟩
abbrev cX7_worth : ByteArray := prog_9_method_34_code
def yX7_worth : MethodName := ⟨RX7, "worth", "(I)I"⟩
abbrev cX7_accountAnew : ByteArray := prog_9_method_35_code
def yX7_accountAnew : MethodName := ⟨RX7, "accountAnew", "(I)I"⟩
abbrev cX7_owesAnew : ByteArray := prog_9_method_36_code
def yX7_owesAnew : MethodName := ⟨RX7, "owesAnew", "(II)I"⟩
abbrev cX7_figure : ByteArray := prog_9_method_37_code
def yX7_figure : MethodName := ⟨RX7, "figure", "(II)I"⟩
abbrev cX7_figures : ByteArray := prog_9_method_38_code
def yX7_figures : MethodName := ⟨RX7, "figures", "(I)I"⟩
abbrev cX7_told : ByteArray := prog_9_method_39_code
def yX7_told : MethodName := ⟨RX7, "told", "(I)C"⟩
def RJx145de : String := "java/io/Serializable"
def TJx145de : u_T := fun k => match k with
  | _ => ("", "", "", false)
def tyJx145de : Nat → FieldType := fun k => match k with
  | _ => .int
abbrev wsJx145de0 : List Cond := u_ws RJx145de TJx145de 0
theorem nmJx145de : ∀ a, a < 0 → ∀ b, b < 0 → a ≠ b → (TJx145de a).2.1 ≠ (TJx145de b).2.1 := by decide +kernel
theorem tyJx145de_ok : ∀ k, k < 0 → parseFieldDescriptor (TJx145de k).2.2.1 = some (tyJx145de k) := by decide +kernel
def RJ5 : String := "java/lang/AbstractStringBuilder"
def TJ5 : u_T := fun k => match k with
  | _ => ("", "", "", false)
def tyJ5 : Nat → FieldType := fun k => match k with
  | _ => .int
abbrev wsJ50 : List Cond := u_ws RJ5 TJ5 0
theorem nmJ5 : ∀ a, a < 0 → ∀ b, b < 0 → a ≠ b → (TJ5 a).2.1 ≠ (TJ5 b).2.1 := by decide +kernel
theorem tyJ5_ok : ∀ k, k < 0 → parseFieldDescriptor (TJ5 k).2.2.1 = some (tyJ5 k) := by decide +kernel
abbrev cJ5_init_d00df : ByteArray := prog_11_method_2_code
def yJ5_init_d00df : MethodName := ⟨RJ5, "<init>", "(I)V"⟩
abbrev cJ5_length_8abf5 : ByteArray := prog_11_method_6_code
def yJ5_length_8abf5 : MethodName := ⟨RJ5, "length", "()I"⟩
abbrev cJ5_ensureCapacityInternal_d00df : ByteArray := prog_11_method_9_code
def yJ5_ensureCapacityInternal_d00df : MethodName := ⟨RJ5, "ensureCapacityInternal", "(I)V"⟩
abbrev cJ5_newCapacity_0f7a4 : ByteArray := prog_11_method_10_code
def yJ5_newCapacity_0f7a4 : MethodName := ⟨RJ5, "newCapacity", "(I)I"⟩
abbrev cJ5_inflate_da8c8 : ByteArray := prog_11_method_11_code
def yJ5_inflate_da8c8 : MethodName := ⟨RJ5, "inflate", "()V"⟩
abbrev cJ5_charAt_5068e : ByteArray := prog_11_method_14_code
def yJ5_charAt_5068e : MethodName := ⟨RJ5, "charAt", "(I)C"⟩
abbrev cJ5_append_3fe6f : ByteArray := prog_11_method_31_code
def yJ5_append_3fe6f : MethodName := ⟨RJ5, "append", "(C)Ljava/lang/AbstractStringBuilder;"⟩
abbrev cJ5_isLatin1_aae02 : ByteArray := prog_11_method_68_code
def yJ5_isLatin1_aae02 : MethodName := ⟨RJ5, "isLatin1", "()Z"⟩
def RJx2cfe8 : String := "java/lang/Appendable"
def TJx2cfe8 : u_T := fun k => match k with
  | _ => ("", "", "", false)
def tyJx2cfe8 : Nat → FieldType := fun k => match k with
  | _ => .int
abbrev wsJx2cfe80 : List Cond := u_ws RJx2cfe8 TJx2cfe8 0
theorem nmJx2cfe8 : ∀ a, a < 0 → ∀ b, b < 0 → a ≠ b → (TJx2cfe8 a).2.1 ≠ (TJx2cfe8 b).2.1 := by decide +kernel
theorem tyJx2cfe8_ok : ∀ k, k < 0 → parseFieldDescriptor (TJx2cfe8 k).2.2.1 = some (tyJx2cfe8 k) := by decide +kernel
def RJx9f9b0 : String := "java/lang/CharSequence"
def TJx9f9b0 : u_T := fun k => match k with
  | _ => ("", "", "", false)
def tyJx9f9b0 : Nat → FieldType := fun k => match k with
  | _ => .int
abbrev wsJx9f9b00 : List Cond := u_ws RJx9f9b0 TJx9f9b0 0
theorem nmJx9f9b0 : ∀ a, a < 0 → ∀ b, b < 0 → a ≠ b → (TJx9f9b0 a).2.1 ≠ (TJx9f9b0 b).2.1 := by decide +kernel
theorem tyJx9f9b0_ok : ∀ k, k < 0 → parseFieldDescriptor (TJx9f9b0 k).2.2.1 = some (tyJx9f9b0 k) := by decide +kernel
def RJx8e188 : String := "java/lang/Cloneable"
def TJx8e188 : u_T := fun k => match k with
  | _ => ("", "", "", false)
def tyJx8e188 : Nat → FieldType := fun k => match k with
  | _ => .int
abbrev wsJx8e1880 : List Cond := u_ws RJx8e188 TJx8e188 0
theorem nmJx8e188 : ∀ a, a < 0 → ∀ b, b < 0 → a ≠ b → (TJx8e188 a).2.1 ≠ (TJx8e188 b).2.1 := by decide +kernel
theorem tyJx8e188_ok : ∀ k, k < 0 → parseFieldDescriptor (TJx8e188 k).2.2.1 = some (tyJx8e188 k) := by decide +kernel
def RJxb160c : String := "java/lang/Comparable"
def TJxb160c : u_T := fun k => match k with
  | _ => ("", "", "", false)
def tyJxb160c : Nat → FieldType := fun k => match k with
  | _ => .int
abbrev wsJxb160c0 : List Cond := u_ws RJxb160c TJxb160c 0
theorem nmJxb160c : ∀ a, a < 0 → ∀ b, b < 0 → a ≠ b → (TJxb160c a).2.1 ≠ (TJxb160c b).2.1 := by decide +kernel
theorem tyJxb160c_ok : ∀ k, k < 0 → parseFieldDescriptor (TJxb160c k).2.2.1 = some (tyJxb160c k) := by decide +kernel
def RJx29ce0 : String := "java/lang/Enum"
def TJx29ce0 : u_T := fun k => match k with
  | _ => ("", "", "", false)
def tyJx29ce0 : Nat → FieldType := fun k => match k with
  | _ => .int
abbrev wsJx29ce00 : List Cond := u_ws RJx29ce0 TJx29ce0 0
theorem nmJx29ce0 : ∀ a, a < 0 → ∀ b, b < 0 → a ≠ b → (TJx29ce0 a).2.1 ≠ (TJx29ce0 b).2.1 := by decide +kernel
theorem tyJx29ce0_ok : ∀ k, k < 0 → parseFieldDescriptor (TJx29ce0 k).2.2.1 = some (tyJx29ce0 k) := by decide +kernel
def RJxab1ab : String := "java/lang/Iterable"
def TJxab1ab : u_T := fun k => match k with
  | _ => ("", "", "", false)
def tyJxab1ab : Nat → FieldType := fun k => match k with
  | _ => .int
abbrev wsJxab1ab0 : List Cond := u_ws RJxab1ab TJxab1ab 0
theorem nmJxab1ab : ∀ a, a < 0 → ∀ b, b < 0 → a ≠ b → (TJxab1ab a).2.1 ≠ (TJxab1ab b).2.1 := by decide +kernel
theorem tyJxab1ab_ok : ∀ k, k < 0 → parseFieldDescriptor (TJxab1ab k).2.2.1 = some (tyJxab1ab k) := by decide +kernel
def RJ9 : String := "java/lang/Math"
def TJ9 : u_T := fun k => match k with
  | _ => ("", "", "", false)
def tyJ9 : Nat → FieldType := fun k => match k with
  | _ => .int
abbrev wsJ90 : List Cond := u_ws RJ9 TJ9 0
theorem nmJ9 : ∀ a, a < 0 → ∀ b, b < 0 → a ≠ b → (TJ9 a).2.1 ≠ (TJ9 b).2.1 := by decide +kernel
theorem tyJ9_ok : ∀ k, k < 0 → parseFieldDescriptor (TJ9 k).2.2.1 = some (tyJ9 k) := by decide +kernel
abbrev cJ9_max_7cf53 : ByteArray := prog_22_method_65_code
def yJ9_max_7cf53 : MethodName := ⟨RJ9, "max", "(II)I"⟩
abbrev cJ9_min_7cf53 : ByteArray := prog_22_method_69_code
def yJ9_min_7cf53 : MethodName := ⟨RJ9, "min", "(II)I"⟩
def RJ0 : String := "java/lang/String"
def TJ0 : u_T := fun k => match k with
  | _ => ("", "", "", false)
def tyJ0 : Nat → FieldType := fun k => match k with
  | _ => .int
abbrev wsJ00 : List Cond := u_ws RJ0 TJ0 0
theorem nmJ0 : ∀ a, a < 0 → ∀ b, b < 0 → a ≠ b → (TJ0 a).2.1 ≠ (TJ0 b).2.1 := by decide +kernel
theorem tyJ0_ok : ∀ k, k < 0 → parseFieldDescriptor (TJ0 k).2.2.1 = some (tyJ0 k) := by decide +kernel
abbrev cJ0_checkIndex_df160 : ByteArray := prog_24_method_155_code
def yJ0_checkIndex_df160 : MethodName := ⟨RJ0, "checkIndex", "(II)V"⟩
abbrev cJ0_checkBoundsOffCount_cabcc : ByteArray := prog_24_method_157_code
def yJ0_checkBoundsOffCount_cabcc : MethodName := ⟨RJ0, "checkBoundsOffCount", "(III)I"⟩
def RJ4 : String := "java/lang/StringBuilder"
def TJ4 : u_T := fun k => match k with
  | 0 => ("java/lang/AbstractStringBuilder", "value", "[B", false)
  | 1 => ("java/lang/AbstractStringBuilder", "coder", "B", false)
  | 2 => ("java/lang/AbstractStringBuilder", "maybeLatin1", "Z", false)
  | _ => ("java/lang/AbstractStringBuilder", "count", "I", false)
def tyJ4 : Nat → FieldType := fun k => match k with
  | 0 => .array .byte
  | 1 => .byte
  | 2 => .boolean
  | _ => .int
abbrev wsJ40 : List Cond := u_ws RJ4 TJ4 4
theorem nmJ4 : ∀ a, a < 4 → ∀ b, b < 4 → a ≠ b → (TJ4 a).2.1 ≠ (TJ4 b).2.1 := by decide +kernel
theorem tyJ4_ok : ∀ k, k < 4 → parseFieldDescriptor (TJ4 k).2.2.1 = some (tyJ4 k) := by decide +kernel
abbrev cJ4_init_da8c8 : ByteArray := prog_25_method_1_code
def yJ4_init_da8c8 : MethodName := ⟨RJ4, "<init>", "()V"⟩
abbrev cJ4_append_cf468 : ByteArray := prog_25_method_14_code
def yJ4_append_cf468 : MethodName := ⟨RJ4, "append", "(C)Ljava/lang/StringBuilder;"⟩
abbrev cJ4_charAt_5068e : ByteArray := prog_25_method_88_code
def yJ4_charAt_5068e : MethodName := ⟨RJ4, "charAt", "(I)C"⟩
abbrev cJ4_length_8abf5 : ByteArray := prog_25_method_93_code
def yJ4_length_8abf5 : MethodName := ⟨RJ4, "length", "()I"⟩
def RJ1 : String := "java/lang/StringLatin1"
def TJ1 : u_T := fun k => match k with
  | _ => ("", "", "", false)
def tyJ1 : Nat → FieldType := fun k => match k with
  | _ => .int
abbrev wsJ10 : List Cond := u_ws RJ1 TJ1 0
theorem nmJ1 : ∀ a, a < 0 → ∀ b, b < 0 → a ≠ b → (TJ1 a).2.1 ≠ (TJ1 b).2.1 := by decide +kernel
theorem tyJ1_ok : ∀ k, k < 0 → parseFieldDescriptor (TJ1 k).2.2.1 = some (tyJ1 k) := by decide +kernel
abbrev cJ1_canEncode_fc78d : ByteArray := prog_26_method_3_code
def yJ1_canEncode_fc78d : MethodName := ⟨RJ1, "canEncode", "(C)Z"⟩
abbrev cJ1_inflate_0e8fd : ByteArray := prog_26_method_50_code
def yJ1_inflate_0e8fd : MethodName := ⟨RJ1, "inflate", "([BI[BII)V"⟩
def RJ2 : String := "java/lang/StringUTF16"
def TJ2 : u_T := fun k => match k with
  | _ => ("", "", "", false)
def tyJ2 : Nat → FieldType := fun k => match k with
  | _ => .int
abbrev wsJ20 : List Cond := u_ws RJ2 TJ2 0
theorem nmJ2 : ∀ a, a < 0 → ∀ b, b < 0 → a ≠ b → (TJ2 a).2.1 ≠ (TJ2 b).2.1 := by decide +kernel
theorem tyJ2_ok : ∀ k, k < 0 → parseFieldDescriptor (TJ2 k).2.2.1 = some (tyJ2 k) := by decide +kernel
abbrev cJ2_newBytesFor_77867 : ByteArray := prog_27_method_2_code
def yJ2_newBytesFor_77867 : MethodName := ⟨RJ2, "newBytesFor", "(I)[B"⟩
abbrev cJ2_newBytesLength_0f7a4 : ByteArray := prog_27_method_3_code
def yJ2_newBytesLength_0f7a4 : MethodName := ⟨RJ2, "newBytesLength", "(I)I"⟩
abbrev cJ2_putChar_b72d1 : ByteArray := prog_27_method_4_code
def yJ2_putChar_b72d1 : MethodName := ⟨RJ2, "putChar", "([BII)V"⟩
abbrev cJ2_getChar_3b067 : ByteArray := prog_27_method_5_code
def yJ2_getChar_3b067 : MethodName := ⟨RJ2, "getChar", "([BI)C"⟩
abbrev cJ2_length_9d52b : ByteArray := prog_27_method_6_code
def yJ2_length_9d52b : MethodName := ⟨RJ2, "length", "([B)I"⟩
abbrev cJ2_putCharSB_b72d1 : ByteArray := prog_27_method_71_code
def yJ2_putCharSB_b72d1 : MethodName := ⟨RJ2, "putCharSB", "([BII)V"⟩
abbrev cJ2_inflate_0e8fd : ByteArray := prog_27_method_86_code
def yJ2_inflate_0e8fd : MethodName := ⟨RJ2, "inflate", "([BI[BII)V"⟩
abbrev cJ2_checkIndex_2214a : ByteArray := prog_27_method_91_code
def yJ2_checkIndex_2214a : MethodName := ⟨RJ2, "checkIndex", "(I[B)V"⟩
abbrev cJ2_checkBoundsOffCount_d044e : ByteArray := prog_27_method_94_code
def yJ2_checkBoundsOffCount_d044e : MethodName := ⟨RJ2, "checkBoundsOffCount", "(II[B)V"⟩
def RJ10 : String := "java/lang/System"
def TJ10 : u_T := fun k => match k with
  | _ => ("", "", "", false)
def tyJ10 : Nat → FieldType := fun k => match k with
  | _ => .int
abbrev wsJ100 : List Cond := u_ws RJ10 TJ10 0
theorem nmJ10 : ∀ a, a < 0 → ∀ b, b < 0 → a ≠ b → (TJ10 a).2.1 ≠ (TJ10 b).2.1 := by decide +kernel
theorem tyJ10_ok : ∀ k, k < 0 → parseFieldDescriptor (TJ10 k).2.2.1 = some (tyJ10 k) := by decide +kernel
def RJxfd54e : String := "java/lang/constant/Constable"
def TJxfd54e : u_T := fun k => match k with
  | _ => ("", "", "", false)
def tyJxfd54e : Nat → FieldType := fun k => match k with
  | _ => .int
abbrev wsJxfd54e0 : List Cond := u_ws RJxfd54e TJxfd54e 0
theorem nmJxfd54e : ∀ a, a < 0 → ∀ b, b < 0 → a ≠ b → (TJxfd54e a).2.1 ≠ (TJxfd54e b).2.1 := by decide +kernel
theorem tyJxfd54e_ok : ∀ k, k < 0 → parseFieldDescriptor (TJxfd54e k).2.2.1 = some (tyJxfd54e k) := by decide +kernel
def RJx3cf43 : String := "java/lang/constant/ConstantDesc"
def TJx3cf43 : u_T := fun k => match k with
  | _ => ("", "", "", false)
def tyJx3cf43 : Nat → FieldType := fun k => match k with
  | _ => .int
abbrev wsJx3cf430 : List Cond := u_ws RJx3cf43 TJx3cf43 0
theorem nmJx3cf43 : ∀ a, a < 0 → ∀ b, b < 0 → a ≠ b → (TJx3cf43 a).2.1 ≠ (TJx3cf43 b).2.1 := by decide +kernel
theorem tyJx3cf43_ok : ∀ k, k < 0 → parseFieldDescriptor (TJx3cf43 k).2.2.1 = some (tyJx3cf43 k) := by decide +kernel
def RJxa1e45 : String := "java/util/AbstractCollection"
def TJxa1e45 : u_T := fun k => match k with
  | _ => ("", "", "", false)
def tyJxa1e45 : Nat → FieldType := fun k => match k with
  | _ => .int
abbrev wsJxa1e450 : List Cond := u_ws RJxa1e45 TJxa1e45 0
theorem nmJxa1e45 : ∀ a, a < 0 → ∀ b, b < 0 → a ≠ b → (TJxa1e45 a).2.1 ≠ (TJxa1e45 b).2.1 := by decide +kernel
theorem tyJxa1e45_ok : ∀ k, k < 0 → parseFieldDescriptor (TJxa1e45 k).2.2.1 = some (tyJxa1e45 k) := by decide +kernel
abbrev cJxa1e45_init_da8c8 : ByteArray := prog_32_method_1_code
def yJxa1e45_init_da8c8 : MethodName := ⟨RJxa1e45, "<init>", "()V"⟩
def RJxc12de : String := "java/util/AbstractList"
def TJxc12de : u_T := fun k => match k with
  | _ => ("", "", "", false)
def tyJxc12de : Nat → FieldType := fun k => match k with
  | _ => .int
abbrev wsJxc12de0 : List Cond := u_ws RJxc12de TJxc12de 0
theorem nmJxc12de : ∀ a, a < 0 → ∀ b, b < 0 → a ≠ b → (TJxc12de a).2.1 ≠ (TJxc12de b).2.1 := by decide +kernel
theorem tyJxc12de_ok : ∀ k, k < 0 → parseFieldDescriptor (TJxc12de k).2.2.1 = some (tyJxc12de k) := by decide +kernel
abbrev cJxc12de_init_da8c8 : ByteArray := prog_33_method_1_code
def yJxc12de_init_da8c8 : MethodName := ⟨RJxc12de, "<init>", "()V"⟩
def RJx4a65c : String := "java/util/ArrayList"
def TJx4a65c : u_T := fun k => match k with
  | 0 => ("java/util/AbstractList", "modCount", "I", false)
  | 1 => ("java/util/ArrayList", "elementData", "[Ljava/lang/Object;", false)
  | _ => ("java/util/ArrayList", "size", "I", false)
def tyJx4a65c : Nat → FieldType := fun k => match k with
  | 0 => .int
  | 1 => .array (.object "java/lang/Object")
  | _ => .int
abbrev wsJx4a65c0 : List Cond := u_ws RJx4a65c TJx4a65c 3
theorem nmJx4a65c : ∀ a, a < 3 → ∀ b, b < 3 → a ≠ b → (TJx4a65c a).2.1 ≠ (TJx4a65c b).2.1 := by decide +kernel
theorem tyJx4a65c_ok : ∀ k, k < 3 → parseFieldDescriptor (TJx4a65c k).2.2.1 = some (tyJx4a65c k) := by decide +kernel
abbrev cJx4a65c_init_da8c8 : ByteArray := prog_34_method_2_code
def yJx4a65c_init_da8c8 : MethodName := ⟨RJx4a65c, "<init>", "()V"⟩
abbrev cJx4a65c_grow_92f84 : ByteArray := prog_34_method_6_code
def yJx4a65c_grow_92f84 : MethodName := ⟨RJx4a65c, "grow", "(I)[Ljava/lang/Object;"⟩
abbrev cJx4a65c_grow_d5877 : ByteArray := prog_34_method_7_code
def yJx4a65c_grow_d5877 : MethodName := ⟨RJx4a65c, "grow", "()[Ljava/lang/Object;"⟩
abbrev cJx4a65c_size_8abf5 : ByteArray := prog_34_method_8_code
def yJx4a65c_size_8abf5 : MethodName := ⟨RJx4a65c, "size", "()I"⟩
abbrev cJx4a65c_elementData_915e3 : ByteArray := prog_34_method_18_code
def yJx4a65c_elementData_915e3 : MethodName := ⟨RJx4a65c, "elementData", "(I)Ljava/lang/Object;"⟩
abbrev cJx4a65c_get_915e3 : ByteArray := prog_34_method_20_code
def yJx4a65c_get_915e3 : MethodName := ⟨RJx4a65c, "get", "(I)Ljava/lang/Object;"⟩
abbrev cJx4a65c_add_72be8 : ByteArray := prog_34_method_24_code
def yJx4a65c_add_72be8 : MethodName := ⟨RJx4a65c, "add", "(Ljava/lang/Object;[Ljava/lang/Object;I)V"⟩
abbrev cJx4a65c_add_9ea2d : ByteArray := prog_34_method_25_code
def yJx4a65c_add_9ea2d : MethodName := ⟨RJx4a65c, "add", "(Ljava/lang/Object;)Z"⟩
def RJ7 : String := "java/util/Arrays"
def TJ7 : u_T := fun k => match k with
  | _ => ("", "", "", false)
def tyJ7 : Nat → FieldType := fun k => match k with
  | _ => .int
abbrev wsJ70 : List Cond := u_ws RJ7 TJ7 0
theorem nmJ7 : ∀ a, a < 0 → ∀ b, b < 0 → a ≠ b → (TJ7 a).2.1 ≠ (TJ7 b).2.1 := by decide +kernel
theorem tyJ7_ok : ∀ k, k < 0 → parseFieldDescriptor (TJ7 k).2.2.1 = some (tyJ7 k) := by decide +kernel
abbrev cJ7_copyOf_1904c : ByteArray := prog_35_method_119_code
def yJ7_copyOf_1904c : MethodName := ⟨RJ7, "copyOf", "([Ljava/lang/Object;I)[Ljava/lang/Object;"⟩
abbrev cJ7_copyOf_6403c : ByteArray := prog_35_method_120_code
def yJ7_copyOf_6403c : MethodName := ⟨RJ7, "copyOf", "([Ljava/lang/Object;ILjava/lang/Class;)[Ljava/lang/Object;"⟩
abbrev cJ7_copyOf_9075b : ByteArray := prog_35_method_121_code
def yJ7_copyOf_9075b : MethodName := ⟨RJ7, "copyOf", "([BI)[B"⟩
def RJx5ef63 : String := "java/util/Collection"
def TJx5ef63 : u_T := fun k => match k with
  | _ => ("", "", "", false)
def tyJx5ef63 : Nat → FieldType := fun k => match k with
  | _ => .int
abbrev wsJx5ef630 : List Cond := u_ws RJx5ef63 TJx5ef63 0
theorem nmJx5ef63 : ∀ a, a < 0 → ∀ b, b < 0 → a ≠ b → (TJx5ef63 a).2.1 ≠ (TJx5ef63 b).2.1 := by decide +kernel
theorem tyJx5ef63_ok : ∀ k, k < 0 → parseFieldDescriptor (TJx5ef63 k).2.2.1 = some (tyJx5ef63 k) := by decide +kernel
def RJxbd725 : String := "java/util/List"
def TJxbd725 : u_T := fun k => match k with
  | _ => ("", "", "", false)
def tyJxbd725 : Nat → FieldType := fun k => match k with
  | _ => .int
abbrev wsJxbd7250 : List Cond := u_ws RJxbd725 TJxbd725 0
theorem nmJxbd725 : ∀ a, a < 0 → ∀ b, b < 0 → a ≠ b → (TJxbd725 a).2.1 ≠ (TJxbd725 b).2.1 := by decide +kernel
theorem tyJxbd725_ok : ∀ k, k < 0 → parseFieldDescriptor (TJxbd725 k).2.2.1 = some (tyJxbd725 k) := by decide +kernel
def RJ15 : String := "java/util/Objects"
def TJ15 : u_T := fun k => match k with
  | _ => ("", "", "", false)
def tyJ15 : Nat → FieldType := fun k => match k with
  | _ => .int
abbrev wsJ150 : List Cond := u_ws RJ15 TJ15 0
theorem nmJ15 : ∀ a, a < 0 → ∀ b, b < 0 → a ≠ b → (TJ15 a).2.1 ≠ (TJ15 b).2.1 := by decide +kernel
theorem tyJ15_ok : ∀ k, k < 0 → parseFieldDescriptor (TJ15 k).2.2.1 = some (tyJ15 k) := by decide +kernel
abbrev cJ15_checkIndex_7cf53 : ByteArray := prog_38_method_17_code
def yJ15_checkIndex_7cf53 : MethodName := ⟨RJ15, "checkIndex", "(II)I"⟩
def RJxf0a74 : String := "java/util/RandomAccess"
def TJxf0a74 : u_T := fun k => match k with
  | _ => ("", "", "", false)
def tyJxf0a74 : Nat → FieldType := fun k => match k with
  | _ => .int
abbrev wsJxf0a740 : List Cond := u_ws RJxf0a74 TJxf0a74 0
theorem nmJxf0a74 : ∀ a, a < 0 → ∀ b, b < 0 → a ≠ b → (TJxf0a74 a).2.1 ≠ (TJxf0a74 b).2.1 := by decide +kernel
theorem tyJxf0a74_ok : ∀ k, k < 0 → parseFieldDescriptor (TJxf0a74 k).2.2.1 = some (tyJxf0a74 k) := by decide +kernel
def RJxa66e6 : String := "java/util/SequencedCollection"
def TJxa66e6 : u_T := fun k => match k with
  | _ => ("", "", "", false)
def tyJxa66e6 : Nat → FieldType := fun k => match k with
  | _ => .int
abbrev wsJxa66e60 : List Cond := u_ws RJxa66e6 TJxa66e6 0
theorem nmJxa66e6 : ∀ a, a < 0 → ∀ b, b < 0 → a ≠ b → (TJxa66e6 a).2.1 ≠ (TJxa66e6 b).2.1 := by decide +kernel
theorem tyJxa66e6_ok : ∀ k, k < 0 → parseFieldDescriptor (TJxa66e6 k).2.2.1 = some (tyJxa66e6 k) := by decide +kernel
def RJ8 : String := "jdk/internal/util/ArraysSupport"
def TJ8 : u_T := fun k => match k with
  | _ => ("", "", "", false)
def tyJ8 : Nat → FieldType := fun k => match k with
  | _ => .int
abbrev wsJ80 : List Cond := u_ws RJ8 TJ8 0
theorem nmJ8 : ∀ a, a < 0 → ∀ b, b < 0 → a ≠ b → (TJ8 a).2.1 ≠ (TJ8 b).2.1 := by decide +kernel
theorem tyJ8_ok : ∀ k, k < 0 → parseFieldDescriptor (TJ8 k).2.2.1 = some (tyJ8 k) := by decide +kernel
abbrev cJ8_newLength_cabcc : ByteArray := prog_41_method_27_code
def yJ8_newLength_cabcc : MethodName := ⟨RJ8, "newLength", "(III)I"⟩
abbrev cJ8_hugeLength_7cf53 : ByteArray := prog_41_method_28_code
def yJ8_hugeLength_7cf53 : MethodName := ⟨RJ8, "hugeLength", "(II)I"⟩
def RJ3 : String := "jdk/internal/util/Preconditions"
def TJ3 : u_T := fun k => match k with
  | _ => ("", "", "", false)
def tyJ3 : Nat → FieldType := fun k => match k with
  | _ => .int
abbrev wsJ30 : List Cond := u_ws RJ3 TJ3 0
theorem nmJ3 : ∀ a, a < 0 → ∀ b, b < 0 → a ≠ b → (TJ3 a).2.1 ≠ (TJ3 b).2.1 := by decide +kernel
theorem tyJ3_ok : ∀ k, k < 0 → parseFieldDescriptor (TJ3 k).2.2.1 = some (tyJ3 k) := by decide +kernel
abbrev cJ3_checkIndex_8e157 : ByteArray := prog_42_method_11_code
def yJ3_checkIndex_8e157 : MethodName := ⟨RJ3, "checkIndex", "(IILjava/util/function/BiFunction;)I"⟩
abbrev cJ3_checkFromIndexSize_8c36e : ByteArray := prog_42_method_13_code
def yJ3_checkFromIndexSize_8c36e : MethodName := ⟨RJ3, "checkFromIndexSize", "(IIILjava/util/function/BiFunction;)I"⟩
def RL : String := "BandwidthclubLaw"
abbrev cL_join : ByteArray := method_3_code
def yL_join : MethodName := ⟨RL, "join", "(LBandwidthclub;II[J)I"⟩
abbrev cL_leave : ByteArray := method_4_code
def yL_leave : MethodName := ⟨RL, "leave", "(LBandwidthclub;I[J)I"⟩
abbrev cL_film : ByteArray := method_5_code
def yL_film : MethodName := ⟨RL, "film", "(LBandwidthclub;I[J)I"⟩
abbrev cL_fetch : ByteArray := method_6_code
def yL_fetch : MethodName := ⟨RL, "fetch", "(LBandwidthclub;II[J)I"⟩
abbrev cL_pass : ByteArray := method_7_code
def yL_pass : MethodName := ⟨RL, "pass", "(LBandwidthclub;I[J)I"⟩
abbrev cL_propose : ByteArray := method_8_code
def yL_propose : MethodName := ⟨RL, "propose", "(LBandwidthclub;III[J)I"⟩
abbrev cL_vote : ByteArray := method_9_code
def yL_vote : MethodName := ⟨RL, "vote", "(LBandwidthclub;IIZ[J)I"⟩
abbrev cL_rule : ByteArray := method_10_code
def yL_rule : MethodName := ⟨RL, "rule", "(LBandwidthclub;I[J)I"⟩
abbrev cL_proposal : ByteArray := method_11_code
def yL_proposal : MethodName := ⟨RL, "proposal", "(LBandwidthclub;II[J)I"⟩
abbrev cL_member : ByteArray := method_12_code
def yL_member : MethodName := ⟨RL, "member", "(LBandwidthclub;II[J)I"⟩
abbrev cL_has : ByteArray := method_13_code
def yL_has : MethodName := ⟨RL, "has", "(LBandwidthclub;II[J)I"⟩
abbrev cL_owes : ByteArray := method_14_code
def yL_owes : MethodName := ⟨RL, "owes", "(LBandwidthclub;II[J)I"⟩
abbrev cL_worth : ByteArray := method_15_code
def yL_worth : MethodName := ⟨RL, "worth", "(LBandwidthclub;I[J)I"⟩
abbrev cL_accountAnew : ByteArray := method_16_code
def yL_accountAnew : MethodName := ⟨RL, "accountAnew", "(LBandwidthclub;I[J)I"⟩
abbrev cL_owesAnew : ByteArray := method_17_code
def yL_owesAnew : MethodName := ⟨RL, "owesAnew", "(LBandwidthclub;II[J)I"⟩
abbrev cL_told : ByteArray := method_18_code
def yL_told : MethodName := ⟨RL, "told", "(LBandwidthclub;I[J)I"⟩
abbrev cL_law : ByteArray := code
def yL_law : MethodName := ⟨RL, "law", "([I)Z"⟩
end
section
theorem dX0_init_0 : decode cX0_init 0 = .ok (.aload_n 0, 1) := by decide +kernel
theorem dX0_init_1 : decode cX0_init 1 = .ok (.invokespecial 3, 3) := by decide +kernel
theorem dX0_init_4 : decode cX0_init 4 = .ok (.aload_n 0, 1) := by decide +kernel
theorem dX0_init_5 : decode cX0_init 5 = .ok (.bipush 10, 2) := by decide +kernel
theorem dX0_init_7 : decode cX0_init 7 = .ok (.newarray .int, 2) := by decide +kernel
theorem dX0_init_9 : decode cX0_init 9 = .ok (.putfield 9, 3) := by decide +kernel
theorem dX0_init_12 : decode cX0_init 12 = .ok (.aload_n 0, 1) := by decide +kernel
theorem dX0_init_13 : decode cX0_init 13 = .ok (.iconst 0, 1) := by decide +kernel
theorem dX0_init_14 : decode cX0_init 14 = .ok (.putfield 15, 3) := by decide +kernel
theorem dX0_init_17 : decode cX0_init 17 = .ok (.aload_n 0, 1) := by decide +kernel
theorem dX0_init_18 : decode cX0_init 18 = .ok (.iload_n 1, 1) := by decide +kernel
theorem dX0_init_19 : decode cX0_init 19 = .ok (.putfield 19, 3) := by decide +kernel
theorem dX0_init_22 : decode cX0_init 22 = .ok (.return_, 1) := by decide +kernel
theorem dX0_balanceWith_0 : decode cX0_balanceWith 0 = .ok (.iload_n 1, 1) := by decide +kernel
theorem dX0_balanceWith_1 : decode cX0_balanceWith 1 = .ok (.ifCond .lt 21, 3) := by decide +kernel
theorem dX0_balanceWith_4 : decode cX0_balanceWith 4 = .ok (.iload_n 1, 1) := by decide +kernel
theorem dX0_balanceWith_5 : decode cX0_balanceWith 5 = .ok (.aload_n 0, 1) := by decide +kernel
theorem dX0_balanceWith_6 : decode cX0_balanceWith 6 = .ok (.getfield 9, 3) := by decide +kernel
theorem dX0_balanceWith_9 : decode cX0_balanceWith 9 = .ok (.arraylength, 1) := by decide +kernel
theorem dX0_balanceWith_10 : decode cX0_balanceWith 10 = .ok (.if_icmp .ge 12, 3) := by decide +kernel
theorem dX0_balanceWith_13 : decode cX0_balanceWith 13 = .ok (.aload_n 0, 1) := by decide +kernel
theorem dX0_balanceWith_14 : decode cX0_balanceWith 14 = .ok (.getfield 9, 3) := by decide +kernel
theorem dX0_balanceWith_17 : decode cX0_balanceWith 17 = .ok (.iload_n 1, 1) := by decide +kernel
theorem dX0_balanceWith_18 : decode cX0_balanceWith 18 = .ok (.iaload, 1) := by decide +kernel
theorem dX0_balanceWith_19 : decode cX0_balanceWith 19 = .ok (.goto 4, 3) := by decide +kernel
theorem dX0_balanceWith_22 : decode cX0_balanceWith 22 = .ok (.iconst 0, 1) := by decide +kernel
theorem dX0_balanceWith_23 : decode cX0_balanceWith 23 = .ok (.ireturn, 1) := by decide +kernel
theorem dX0_enterLoans_0 : decode cX0_enterLoans 0 = .ok (.aload_n 0, 1) := by decide +kernel
theorem dX0_enterLoans_1 : decode cX0_enterLoans 1 = .ok (.getfield 19, 3) := by decide +kernel
theorem dX0_enterLoans_4 : decode cX0_enterLoans 4 = .ok (.aload_n 1, 1) := by decide +kernel
theorem dX0_enterLoans_5 : decode cX0_enterLoans 5 = .ok (.getfield 22, 3) := by decide +kernel
theorem dX0_enterLoans_8 : decode cX0_enterLoans 8 = .ok (.if_icmp .eq 21, 3) := by decide +kernel
theorem dX0_enterLoans_11 : decode cX0_enterLoans 11 = .ok (.aload_n 0, 1) := by decide +kernel
theorem dX0_enterLoans_12 : decode cX0_enterLoans 12 = .ok (.aload_n 1, 1) := by decide +kernel
theorem dX0_enterLoans_13 : decode cX0_enterLoans 13 = .ok (.getfield 22, 3) := by decide +kernel
theorem dX0_enterLoans_16 : decode cX0_enterLoans 16 = .ok (.aload_n 1, 1) := by decide +kernel
theorem dX0_enterLoans_17 : decode cX0_enterLoans 17 = .ok (.aload_n 0, 1) := by decide +kernel
theorem dX0_enterLoans_18 : decode cX0_enterLoans 18 = .ok (.getfield 19, 3) := by decide +kernel
theorem dX0_enterLoans_21 : decode cX0_enterLoans 21 = .ok (.invokevirtual 27, 3) := by decide +kernel
theorem dX0_enterLoans_24 : decode cX0_enterLoans 24 = .ok (.ineg, 1) := by decide +kernel
theorem dX0_enterLoans_25 : decode cX0_enterLoans 25 = .ok (.invokevirtual 31, 3) := by decide +kernel
theorem dX0_enterLoans_28 : decode cX0_enterLoans 28 = .ok (.return_, 1) := by decide +kernel
theorem dX0_enterLoans_29 : decode cX0_enterLoans 29 = .ok (.iconst 0, 1) := by decide +kernel
theorem dX0_enterLoans_30 : decode cX0_enterLoans 30 = .ok (.istore_n 2, 1) := by decide +kernel
theorem dX0_enterLoans_31 : decode cX0_enterLoans 31 = .ok (.iload_n 2, 1) := by decide +kernel
theorem dX0_enterLoans_32 : decode cX0_enterLoans 32 = .ok (.aload_n 0, 1) := by decide +kernel
theorem dX0_enterLoans_33 : decode cX0_enterLoans 33 = .ok (.getfield 9, 3) := by decide +kernel
theorem dX0_enterLoans_36 : decode cX0_enterLoans 36 = .ok (.arraylength, 1) := by decide +kernel
theorem dX0_enterLoans_37 : decode cX0_enterLoans 37 = .ok (.if_icmp .ge 27, 3) := by decide +kernel
theorem dX0_enterLoans_40 : decode cX0_enterLoans 40 = .ok (.iload_n 2, 1) := by decide +kernel
theorem dX0_enterLoans_41 : decode cX0_enterLoans 41 = .ok (.aload_n 0, 1) := by decide +kernel
theorem dX0_enterLoans_42 : decode cX0_enterLoans 42 = .ok (.getfield 19, 3) := by decide +kernel
theorem dX0_enterLoans_45 : decode cX0_enterLoans 45 = .ok (.if_icmp .eq 13, 3) := by decide +kernel
theorem dX0_enterLoans_48 : decode cX0_enterLoans 48 = .ok (.aload_n 0, 1) := by decide +kernel
theorem dX0_enterLoans_49 : decode cX0_enterLoans 49 = .ok (.iload_n 2, 1) := by decide +kernel
theorem dX0_enterLoans_50 : decode cX0_enterLoans 50 = .ok (.aload_n 1, 1) := by decide +kernel
theorem dX0_enterLoans_51 : decode cX0_enterLoans 51 = .ok (.iload_n 2, 1) := by decide +kernel
theorem dX0_enterLoans_52 : decode cX0_enterLoans 52 = .ok (.invokevirtual 27, 3) := by decide +kernel
theorem dX0_enterLoans_55 : decode cX0_enterLoans 55 = .ok (.invokevirtual 31, 3) := by decide +kernel
theorem dX0_enterLoans_58 : decode cX0_enterLoans 58 = .ok (.iinc 2 1, 3) := by decide +kernel
theorem dX0_enterLoans_61 : decode cX0_enterLoans 61 = .ok (.goto (-30), 3) := by decide +kernel
theorem dX0_enterLoans_64 : decode cX0_enterLoans 64 = .ok (.return_, 1) := by decide +kernel
theorem dX0_changeBalance_0 : decode cX0_changeBalance 0 = .ok (.iload_n 1, 1) := by decide +kernel
theorem dX0_changeBalance_1 : decode cX0_changeBalance 1 = .ok (.ifCond .lt 22, 3) := by decide +kernel
theorem dX0_changeBalance_4 : decode cX0_changeBalance 4 = .ok (.iload_n 1, 1) := by decide +kernel
theorem dX0_changeBalance_5 : decode cX0_changeBalance 5 = .ok (.aload_n 0, 1) := by decide +kernel
theorem dX0_changeBalance_6 : decode cX0_changeBalance 6 = .ok (.getfield 9, 3) := by decide +kernel
theorem dX0_changeBalance_9 : decode cX0_changeBalance 9 = .ok (.arraylength, 1) := by decide +kernel
theorem dX0_changeBalance_10 : decode cX0_changeBalance 10 = .ok (.if_icmp .ge 13, 3) := by decide +kernel
theorem dX0_changeBalance_13 : decode cX0_changeBalance 13 = .ok (.aload_n 0, 1) := by decide +kernel
theorem dX0_changeBalance_14 : decode cX0_changeBalance 14 = .ok (.getfield 9, 3) := by decide +kernel
theorem dX0_changeBalance_17 : decode cX0_changeBalance 17 = .ok (.iload_n 1, 1) := by decide +kernel
theorem dX0_changeBalance_18 : decode cX0_changeBalance 18 = .ok (.dup2, 1) := by decide +kernel
theorem dX0_changeBalance_19 : decode cX0_changeBalance 19 = .ok (.iaload, 1) := by decide +kernel
theorem dX0_changeBalance_20 : decode cX0_changeBalance 20 = .ok (.iload_n 2, 1) := by decide +kernel
theorem dX0_changeBalance_21 : decode cX0_changeBalance 21 = .ok (.iadd, 1) := by decide +kernel
theorem dX0_changeBalance_22 : decode cX0_changeBalance 22 = .ok (.iastore, 1) := by decide +kernel
theorem dX0_changeBalance_23 : decode cX0_changeBalance 23 = .ok (.return_, 1) := by decide +kernel
theorem dX0_settle_0 : decode cX0_settle 0 = .ok (.iconst 0, 1) := by decide +kernel
theorem dX0_settle_1 : decode cX0_settle 1 = .ok (.istore_n 2, 1) := by decide +kernel
theorem dX0_settle_2 : decode cX0_settle 2 = .ok (.iload_n 2, 1) := by decide +kernel
theorem dX0_settle_3 : decode cX0_settle 3 = .ok (.aload_n 0, 1) := by decide +kernel
theorem dX0_settle_4 : decode cX0_settle 4 = .ok (.getfield 9, 3) := by decide +kernel
theorem dX0_settle_7 : decode cX0_settle 7 = .ok (.arraylength, 1) := by decide +kernel
theorem dX0_settle_8 : decode cX0_settle 8 = .ok (.if_icmp .ge 44, 3) := by decide +kernel
theorem dX0_settle_11 : decode cX0_settle 11 = .ok (.iload_n 2, 1) := by decide +kernel
theorem dX0_settle_12 : decode cX0_settle 12 = .ok (.iload_n 1, 1) := by decide +kernel
theorem dX0_settle_13 : decode cX0_settle 13 = .ok (.if_icmp .eq 11, 3) := by decide +kernel
theorem dX0_settle_16 : decode cX0_settle 16 = .ok (.aload_n 0, 1) := by decide +kernel
theorem dX0_settle_17 : decode cX0_settle 17 = .ok (.getfield 19, 3) := by decide +kernel
theorem dX0_settle_20 : decode cX0_settle 20 = .ok (.iload_n 1, 1) := by decide +kernel
theorem dX0_settle_21 : decode cX0_settle 21 = .ok (.if_icmp .ne 25, 3) := by decide +kernel
theorem dX0_settle_24 : decode cX0_settle 24 = .ok (.aload_n 0, 1) := by decide +kernel
theorem dX0_settle_25 : decode cX0_settle 25 = .ok (.dup, 1) := by decide +kernel
theorem dX0_settle_26 : decode cX0_settle 26 = .ok (.getfield 15, 3) := by decide +kernel
theorem dX0_settle_29 : decode cX0_settle 29 = .ok (.aload_n 0, 1) := by decide +kernel
theorem dX0_settle_30 : decode cX0_settle 30 = .ok (.getfield 9, 3) := by decide +kernel
theorem dX0_settle_33 : decode cX0_settle 33 = .ok (.iload_n 2, 1) := by decide +kernel
theorem dX0_settle_34 : decode cX0_settle 34 = .ok (.iaload, 1) := by decide +kernel
theorem dX0_settle_35 : decode cX0_settle 35 = .ok (.isub, 1) := by decide +kernel
theorem dX0_settle_36 : decode cX0_settle 36 = .ok (.putfield 15, 3) := by decide +kernel
theorem dX0_settle_39 : decode cX0_settle 39 = .ok (.aload_n 0, 1) := by decide +kernel
theorem dX0_settle_40 : decode cX0_settle 40 = .ok (.getfield 9, 3) := by decide +kernel
theorem dX0_settle_43 : decode cX0_settle 43 = .ok (.iload_n 2, 1) := by decide +kernel
theorem dX0_settle_44 : decode cX0_settle 44 = .ok (.iconst 0, 1) := by decide +kernel
theorem dX0_settle_45 : decode cX0_settle 45 = .ok (.iastore, 1) := by decide +kernel
theorem dX0_settle_46 : decode cX0_settle 46 = .ok (.iinc 2 1, 3) := by decide +kernel
theorem dX0_settle_49 : decode cX0_settle 49 = .ok (.goto (-47), 3) := by decide +kernel
theorem dX0_settle_52 : decode cX0_settle 52 = .ok (.return_, 1) := by decide +kernel
theorem dX1_init_0 : decode cX1_init 0 = .ok (.aload_n 0, 1) := by decide +kernel
theorem dX1_init_1 : decode cX1_init 1 = .ok (.invokespecial 3, 3) := by decide +kernel
theorem dX1_init_4 : decode cX1_init 4 = .ok (.aload_n 0, 1) := by decide +kernel
theorem dX1_init_5 : decode cX1_init 5 = .ok (.bipush 10, 2) := by decide +kernel
theorem dX1_init_7 : decode cX1_init 7 = .ok (.newarray .int, 2) := by decide +kernel
theorem dX1_init_9 : decode cX1_init 9 = .ok (.putfield 9, 3) := by decide +kernel
theorem dX1_init_12 : decode cX1_init 12 = .ok (.aload_n 0, 1) := by decide +kernel
theorem dX1_init_13 : decode cX1_init 13 = .ok (.iconst (-1), 1) := by decide +kernel
theorem dX1_init_14 : decode cX1_init 14 = .ok (.putfield 15, 3) := by decide +kernel
theorem dX1_init_17 : decode cX1_init 17 = .ok (.aload_n 0, 1) := by decide +kernel
theorem dX1_init_18 : decode cX1_init 18 = .ok (.aload_n 1, 1) := by decide +kernel
theorem dX1_init_19 : decode cX1_init 19 = .ok (.putfield 19, 3) := by decide +kernel
theorem dX1_init_22 : decode cX1_init 22 = .ok (.aload_n 0, 1) := by decide +kernel
theorem dX1_init_23 : decode cX1_init 23 = .ok (.iload_n 2, 1) := by decide +kernel
theorem dX1_init_24 : decode cX1_init 24 = .ok (.putfield 23, 3) := by decide +kernel
theorem dX1_init_27 : decode cX1_init 27 = .ok (.aload_n 0, 1) := by decide +kernel
theorem dX1_init_28 : decode cX1_init 28 = .ok (.iload_n 3, 1) := by decide +kernel
theorem dX1_init_29 : decode cX1_init 29 = .ok (.putfield 26, 3) := by decide +kernel
theorem dX1_init_32 : decode cX1_init 32 = .ok (.aload_n 0, 1) := by decide +kernel
theorem dX1_init_33 : decode cX1_init 33 = .ok (.iload 4, 2) := by decide +kernel
theorem dX1_init_35 : decode cX1_init 35 = .ok (.putfield 29, 3) := by decide +kernel
theorem dX1_init_38 : decode cX1_init 38 = .ok (.return_, 1) := by decide +kernel
theorem dX1_addLine_0 : decode cX1_addLine 0 = .ok (.iload_n 1, 1) := by decide +kernel
theorem dX1_addLine_1 : decode cX1_addLine 1 = .ok (.ifCond .lt 22, 3) := by decide +kernel
theorem dX1_addLine_4 : decode cX1_addLine 4 = .ok (.iload_n 1, 1) := by decide +kernel
theorem dX1_addLine_5 : decode cX1_addLine 5 = .ok (.aload_n 0, 1) := by decide +kernel
theorem dX1_addLine_6 : decode cX1_addLine 6 = .ok (.getfield 9, 3) := by decide +kernel
theorem dX1_addLine_9 : decode cX1_addLine 9 = .ok (.arraylength, 1) := by decide +kernel
theorem dX1_addLine_10 : decode cX1_addLine 10 = .ok (.if_icmp .ge 13, 3) := by decide +kernel
theorem dX1_addLine_13 : decode cX1_addLine 13 = .ok (.aload_n 0, 1) := by decide +kernel
theorem dX1_addLine_14 : decode cX1_addLine 14 = .ok (.getfield 9, 3) := by decide +kernel
theorem dX1_addLine_17 : decode cX1_addLine 17 = .ok (.iload_n 1, 1) := by decide +kernel
theorem dX1_addLine_18 : decode cX1_addLine 18 = .ok (.dup2, 1) := by decide +kernel
theorem dX1_addLine_19 : decode cX1_addLine 19 = .ok (.iaload, 1) := by decide +kernel
theorem dX1_addLine_20 : decode cX1_addLine 20 = .ok (.iload_n 2, 1) := by decide +kernel
theorem dX1_addLine_21 : decode cX1_addLine 21 = .ok (.iadd, 1) := by decide +kernel
theorem dX1_addLine_22 : decode cX1_addLine 22 = .ok (.iastore, 1) := by decide +kernel
theorem dX1_addLine_23 : decode cX1_addLine 23 = .ok (.return_, 1) := by decide +kernel
theorem dX1_unitsOver_0 : decode cX1_unitsOver 0 = .ok (.iload_n 1, 1) := by decide +kernel
theorem dX1_unitsOver_1 : decode cX1_unitsOver 1 = .ok (.ifCond .lt 21, 3) := by decide +kernel
theorem dX1_unitsOver_4 : decode cX1_unitsOver 4 = .ok (.iload_n 1, 1) := by decide +kernel
theorem dX1_unitsOver_5 : decode cX1_unitsOver 5 = .ok (.aload_n 0, 1) := by decide +kernel
theorem dX1_unitsOver_6 : decode cX1_unitsOver 6 = .ok (.getfield 9, 3) := by decide +kernel
theorem dX1_unitsOver_9 : decode cX1_unitsOver 9 = .ok (.arraylength, 1) := by decide +kernel
theorem dX1_unitsOver_10 : decode cX1_unitsOver 10 = .ok (.if_icmp .ge 12, 3) := by decide +kernel
theorem dX1_unitsOver_13 : decode cX1_unitsOver 13 = .ok (.aload_n 0, 1) := by decide +kernel
theorem dX1_unitsOver_14 : decode cX1_unitsOver 14 = .ok (.getfield 9, 3) := by decide +kernel
theorem dX1_unitsOver_17 : decode cX1_unitsOver 17 = .ok (.iload_n 1, 1) := by decide +kernel
theorem dX1_unitsOver_18 : decode cX1_unitsOver 18 = .ok (.iaload, 1) := by decide +kernel
theorem dX1_unitsOver_19 : decode cX1_unitsOver 19 = .ok (.goto 4, 3) := by decide +kernel
theorem dX1_unitsOver_22 : decode cX1_unitsOver 22 = .ok (.iconst 0, 1) := by decide +kernel
theorem dX1_unitsOver_23 : decode cX1_unitsOver 23 = .ok (.ireturn, 1) := by decide +kernel
theorem dX2_init_0 : decode cX2_init 0 = .ok (.aload_n 0, 1) := by decide +kernel
theorem dX2_init_1 : decode cX2_init 1 = .ok (.invokespecial 1, 3) := by decide +kernel
theorem dX2_init_4 : decode cX2_init 4 = .ok (.aload_n 0, 1) := by decide +kernel
theorem dX2_init_5 : decode cX2_init 5 = .ok (.iconst 0, 1) := by decide +kernel
theorem dX2_init_6 : decode cX2_init 6 = .ok (.putfield 7, 3) := by decide +kernel
theorem dX2_init_9 : decode cX2_init 9 = .ok (.aload_n 0, 1) := by decide +kernel
theorem dX2_init_10 : decode cX2_init 10 = .ok (.iload_n 1, 1) := by decide +kernel
theorem dX2_init_11 : decode cX2_init 11 = .ok (.putfield 13, 3) := by decide +kernel
theorem dX2_init_14 : decode cX2_init 14 = .ok (.return_, 1) := by decide +kernel
theorem dX3_init_0 : decode cX3_init 0 = .ok (.aload_n 0, 1) := by decide +kernel
theorem dX3_init_1 : decode cX3_init 1 = .ok (.invokespecial 3, 3) := by decide +kernel
theorem dX3_init_4 : decode cX3_init 4 = .ok (.aload_n 0, 1) := by decide +kernel
theorem dX3_init_5 : decode cX3_init 5 = .ok (.bipush 20, 2) := by decide +kernel
theorem dX3_init_7 : decode cX3_init 7 = .ok (.newarray .boolean, 2) := by decide +kernel
theorem dX3_init_9 : decode cX3_init 9 = .ok (.putfield 9, 3) := by decide +kernel
theorem dX3_init_12 : decode cX3_init 12 = .ok (.aload_n 0, 1) := by decide +kernel
theorem dX3_init_13 : decode cX3_init 13 = .ok (.iconst 1, 1) := by decide +kernel
theorem dX3_init_14 : decode cX3_init 14 = .ok (.putfield 15, 3) := by decide +kernel
theorem dX3_init_17 : decode cX3_init 17 = .ok (.aload_n 0, 1) := by decide +kernel
theorem dX3_init_18 : decode cX3_init 18 = .ok (.iconst 0, 1) := by decide +kernel
theorem dX3_init_19 : decode cX3_init 19 = .ok (.putfield 19, 3) := by decide +kernel
theorem dX3_init_22 : decode cX3_init 22 = .ok (.aload_n 0, 1) := by decide +kernel
theorem dX3_init_23 : decode cX3_init 23 = .ok (.iload_n 1, 1) := by decide +kernel
theorem dX3_init_24 : decode cX3_init 24 = .ok (.putfield 23, 3) := by decide +kernel
theorem dX3_init_27 : decode cX3_init 27 = .ok (.aload_n 0, 1) := by decide +kernel
theorem dX3_init_28 : decode cX3_init 28 = .ok (.iload_n 2, 1) := by decide +kernel
theorem dX3_init_29 : decode cX3_init 29 = .ok (.putfield 26, 3) := by decide +kernel
theorem dX3_init_32 : decode cX3_init 32 = .ok (.aload_n 0, 1) := by decide +kernel
theorem dX3_init_33 : decode cX3_init 33 = .ok (.iload_n 3, 1) := by decide +kernel
theorem dX3_init_34 : decode cX3_init 34 = .ok (.putfield 29, 3) := by decide +kernel
theorem dX3_init_37 : decode cX3_init 37 = .ok (.aload_n 0, 1) := by decide +kernel
theorem dX3_init_38 : decode cX3_init 38 = .ok (.iload_n 2, 1) := by decide +kernel
theorem dX3_init_39 : decode cX3_init 39 = .ok (.putfield 32, 3) := by decide +kernel
theorem dX3_init_42 : decode cX3_init 42 = .ok (.aload_n 0, 1) := by decide +kernel
theorem dX3_init_43 : decode cX3_init 43 = .ok (.new 35, 3) := by decide +kernel
theorem dX3_init_46 : decode cX3_init 46 = .ok (.dup, 1) := by decide +kernel
theorem dX3_init_47 : decode cX3_init 47 = .ok (.iload_n 1, 1) := by decide +kernel
theorem dX3_init_48 : decode cX3_init 48 = .ok (.invokespecial 37, 3) := by decide +kernel
theorem dX3_init_51 : decode cX3_init 51 = .ok (.putfield 40, 3) := by decide +kernel
theorem dX3_init_54 : decode cX3_init 54 = .ok (.return_, 1) := by decide +kernel
theorem dX3_holds_0 : decode cX3_holds 0 = .ok (.iload_n 1, 1) := by decide +kernel
theorem dX3_holds_1 : decode cX3_holds 1 = .ok (.ifCond .lt 25, 3) := by decide +kernel
theorem dX3_holds_4 : decode cX3_holds 4 = .ok (.iload_n 1, 1) := by decide +kernel
theorem dX3_holds_5 : decode cX3_holds 5 = .ok (.aload_n 0, 1) := by decide +kernel
theorem dX3_holds_6 : decode cX3_holds 6 = .ok (.getfield 9, 3) := by decide +kernel
theorem dX3_holds_9 : decode cX3_holds 9 = .ok (.arraylength, 1) := by decide +kernel
theorem dX3_holds_10 : decode cX3_holds 10 = .ok (.if_icmp .ge 16, 3) := by decide +kernel
theorem dX3_holds_13 : decode cX3_holds 13 = .ok (.aload_n 0, 1) := by decide +kernel
theorem dX3_holds_14 : decode cX3_holds 14 = .ok (.getfield 9, 3) := by decide +kernel
theorem dX3_holds_17 : decode cX3_holds 17 = .ok (.iload_n 1, 1) := by decide +kernel
theorem dX3_holds_18 : decode cX3_holds 18 = .ok (.baload, 1) := by decide +kernel
theorem dX3_holds_19 : decode cX3_holds 19 = .ok (.ifCond .eq 7, 3) := by decide +kernel
theorem dX3_holds_22 : decode cX3_holds 22 = .ok (.iconst 1, 1) := by decide +kernel
theorem dX3_holds_23 : decode cX3_holds 23 = .ok (.goto 4, 3) := by decide +kernel
theorem dX3_holds_26 : decode cX3_holds 26 = .ok (.iconst 0, 1) := by decide +kernel
theorem dX3_holds_27 : decode cX3_holds 27 = .ok (.ireturn, 1) := by decide +kernel
theorem dX3_setHeld_0 : decode cX3_setHeld 0 = .ok (.iload_n 1, 1) := by decide +kernel
theorem dX3_setHeld_1 : decode cX3_setHeld 1 = .ok (.ifCond .lt 19, 3) := by decide +kernel
theorem dX3_setHeld_4 : decode cX3_setHeld 4 = .ok (.iload_n 1, 1) := by decide +kernel
theorem dX3_setHeld_5 : decode cX3_setHeld 5 = .ok (.aload_n 0, 1) := by decide +kernel
theorem dX3_setHeld_6 : decode cX3_setHeld 6 = .ok (.getfield 9, 3) := by decide +kernel
theorem dX3_setHeld_9 : decode cX3_setHeld 9 = .ok (.arraylength, 1) := by decide +kernel
theorem dX3_setHeld_10 : decode cX3_setHeld 10 = .ok (.if_icmp .ge 10, 3) := by decide +kernel
theorem dX3_setHeld_13 : decode cX3_setHeld 13 = .ok (.aload_n 0, 1) := by decide +kernel
theorem dX3_setHeld_14 : decode cX3_setHeld 14 = .ok (.getfield 9, 3) := by decide +kernel
theorem dX3_setHeld_17 : decode cX3_setHeld 17 = .ok (.iload_n 1, 1) := by decide +kernel
theorem dX3_setHeld_18 : decode cX3_setHeld 18 = .ok (.iload_n 2, 1) := by decide +kernel
theorem dX3_setHeld_19 : decode cX3_setHeld 19 = .ok (.bastore, 1) := by decide +kernel
theorem dX3_setHeld_20 : decode cX3_setHeld 20 = .ok (.return_, 1) := by decide +kernel
theorem dX3_makeLineWhole_0 : decode cX3_makeLineWhole 0 = .ok (.aload_n 0, 1) := by decide +kernel
theorem dX3_makeLineWhole_1 : decode cX3_makeLineWhole 1 = .ok (.getfield 15, 3) := by decide +kernel
theorem dX3_makeLineWhole_4 : decode cX3_makeLineWhole 4 = .ok (.ifCond .eq 11, 3) := by decide +kernel
theorem dX3_makeLineWhole_7 : decode cX3_makeLineWhole 7 = .ok (.aload_n 0, 1) := by decide +kernel
theorem dX3_makeLineWhole_8 : decode cX3_makeLineWhole 8 = .ok (.aload_n 0, 1) := by decide +kernel
theorem dX3_makeLineWhole_9 : decode cX3_makeLineWhole 9 = .ok (.getfield 26, 3) := by decide +kernel
theorem dX3_makeLineWhole_12 : decode cX3_makeLineWhole 12 = .ok (.putfield 32, 3) := by decide +kernel
theorem dX3_makeLineWhole_15 : decode cX3_makeLineWhole 15 = .ok (.return_, 1) := by decide +kernel
theorem dX3_goAway_0 : decode cX3_goAway 0 = .ok (.aload_n 0, 1) := by decide +kernel
theorem dX3_goAway_1 : decode cX3_goAway 1 = .ok (.iconst 0, 1) := by decide +kernel
theorem dX3_goAway_2 : decode cX3_goAway 2 = .ok (.putfield 15, 3) := by decide +kernel
theorem dX3_goAway_5 : decode cX3_goAway 5 = .ok (.aload_n 0, 1) := by decide +kernel
theorem dX3_goAway_6 : decode cX3_goAway 6 = .ok (.iconst 0, 1) := by decide +kernel
theorem dX3_goAway_7 : decode cX3_goAway 7 = .ok (.putfield 32, 3) := by decide +kernel
theorem dX3_goAway_10 : decode cX3_goAway 10 = .ok (.iconst 0, 1) := by decide +kernel
theorem dX3_goAway_11 : decode cX3_goAway 11 = .ok (.istore_n 1, 1) := by decide +kernel
theorem dX3_goAway_12 : decode cX3_goAway 12 = .ok (.iload_n 1, 1) := by decide +kernel
theorem dX3_goAway_13 : decode cX3_goAway 13 = .ok (.aload_n 0, 1) := by decide +kernel
theorem dX3_goAway_14 : decode cX3_goAway 14 = .ok (.getfield 9, 3) := by decide +kernel
theorem dX3_goAway_17 : decode cX3_goAway 17 = .ok (.arraylength, 1) := by decide +kernel
theorem dX3_goAway_18 : decode cX3_goAway 18 = .ok (.if_icmp .ge 16, 3) := by decide +kernel
theorem dX3_goAway_21 : decode cX3_goAway 21 = .ok (.aload_n 0, 1) := by decide +kernel
theorem dX3_goAway_22 : decode cX3_goAway 22 = .ok (.getfield 9, 3) := by decide +kernel
theorem dX3_goAway_25 : decode cX3_goAway 25 = .ok (.iload_n 1, 1) := by decide +kernel
theorem dX3_goAway_26 : decode cX3_goAway 26 = .ok (.iconst 0, 1) := by decide +kernel
theorem dX3_goAway_27 : decode cX3_goAway 27 = .ok (.bastore, 1) := by decide +kernel
theorem dX3_goAway_28 : decode cX3_goAway 28 = .ok (.iinc 1 1, 3) := by decide +kernel
theorem dX3_goAway_31 : decode cX3_goAway 31 = .ok (.goto (-19), 3) := by decide +kernel
theorem dX3_goAway_34 : decode cX3_goAway 34 = .ok (.return_, 1) := by decide +kernel
theorem dX4_init_0 : decode cX4_init 0 = .ok (.aload_n 0, 1) := by decide +kernel
theorem dX4_init_1 : decode cX4_init 1 = .ok (.invokespecial 3, 3) := by decide +kernel
theorem dX4_init_4 : decode cX4_init 4 = .ok (.aload_n 0, 1) := by decide +kernel
theorem dX4_init_5 : decode cX4_init 5 = .ok (.bipush 10, 2) := by decide +kernel
theorem dX4_init_7 : decode cX4_init 7 = .ok (.newarray .int, 2) := by decide +kernel
theorem dX4_init_9 : decode cX4_init 9 = .ok (.putfield 9, 3) := by decide +kernel
theorem dX4_init_12 : decode cX4_init 12 = .ok (.aload_n 0, 1) := by decide +kernel
theorem dX4_init_13 : decode cX4_init 13 = .ok (.iconst 0, 1) := by decide +kernel
theorem dX4_init_14 : decode cX4_init 14 = .ok (.putfield 15, 3) := by decide +kernel
theorem dX4_init_17 : decode cX4_init 17 = .ok (.aload_n 0, 1) := by decide +kernel
theorem dX4_init_18 : decode cX4_init 18 = .ok (.iconst 0, 1) := by decide +kernel
theorem dX4_init_19 : decode cX4_init 19 = .ok (.putfield 19, 3) := by decide +kernel
theorem dX4_init_22 : decode cX4_init 22 = .ok (.aload_n 0, 1) := by decide +kernel
theorem dX4_init_23 : decode cX4_init 23 = .ok (.iload_n 1, 1) := by decide +kernel
theorem dX4_init_24 : decode cX4_init 24 = .ok (.putfield 22, 3) := by decide +kernel
theorem dX4_init_27 : decode cX4_init 27 = .ok (.aload_n 0, 1) := by decide +kernel
theorem dX4_init_28 : decode cX4_init 28 = .ok (.iload_n 2, 1) := by decide +kernel
theorem dX4_init_29 : decode cX4_init 29 = .ok (.putfield 25, 3) := by decide +kernel
theorem dX4_init_32 : decode cX4_init 32 = .ok (.return_, 1) := by decide +kernel
theorem dX4_setVote_0 : decode cX4_setVote 0 = .ok (.iload_n 1, 1) := by decide +kernel
theorem dX4_setVote_1 : decode cX4_setVote 1 = .ok (.ifCond .lt 19, 3) := by decide +kernel
theorem dX4_setVote_4 : decode cX4_setVote 4 = .ok (.iload_n 1, 1) := by decide +kernel
theorem dX4_setVote_5 : decode cX4_setVote 5 = .ok (.aload_n 0, 1) := by decide +kernel
theorem dX4_setVote_6 : decode cX4_setVote 6 = .ok (.getfield 9, 3) := by decide +kernel
theorem dX4_setVote_9 : decode cX4_setVote 9 = .ok (.arraylength, 1) := by decide +kernel
theorem dX4_setVote_10 : decode cX4_setVote 10 = .ok (.if_icmp .ge 10, 3) := by decide +kernel
theorem dX4_setVote_13 : decode cX4_setVote 13 = .ok (.aload_n 0, 1) := by decide +kernel
theorem dX4_setVote_14 : decode cX4_setVote 14 = .ok (.getfield 9, 3) := by decide +kernel
theorem dX4_setVote_17 : decode cX4_setVote 17 = .ok (.iload_n 1, 1) := by decide +kernel
theorem dX4_setVote_18 : decode cX4_setVote 18 = .ok (.iload_n 2, 1) := by decide +kernel
theorem dX4_setVote_19 : decode cX4_setVote 19 = .ok (.iastore, 1) := by decide +kernel
theorem dX4_setVote_20 : decode cX4_setVote 20 = .ok (.return_, 1) := by decide +kernel
theorem dX4_countVotes_0 : decode cX4_countVotes 0 = .ok (.iconst 0, 1) := by decide +kernel
theorem dX4_countVotes_1 : decode cX4_countVotes 1 = .ok (.istore_n 2, 1) := by decide +kernel
theorem dX4_countVotes_2 : decode cX4_countVotes 2 = .ok (.iconst 0, 1) := by decide +kernel
theorem dX4_countVotes_3 : decode cX4_countVotes 3 = .ok (.istore_n 3, 1) := by decide +kernel
theorem dX4_countVotes_4 : decode cX4_countVotes 4 = .ok (.iload_n 3, 1) := by decide +kernel
theorem dX4_countVotes_5 : decode cX4_countVotes 5 = .ok (.aload_n 0, 1) := by decide +kernel
theorem dX4_countVotes_6 : decode cX4_countVotes 6 = .ok (.getfield 9, 3) := by decide +kernel
theorem dX4_countVotes_9 : decode cX4_countVotes 9 = .ok (.arraylength, 1) := by decide +kernel
theorem dX4_countVotes_10 : decode cX4_countVotes 10 = .ok (.if_icmp .ge 22, 3) := by decide +kernel
theorem dX4_countVotes_13 : decode cX4_countVotes 13 = .ok (.aload_n 0, 1) := by decide +kernel
theorem dX4_countVotes_14 : decode cX4_countVotes 14 = .ok (.getfield 9, 3) := by decide +kernel
theorem dX4_countVotes_17 : decode cX4_countVotes 17 = .ok (.iload_n 3, 1) := by decide +kernel
theorem dX4_countVotes_18 : decode cX4_countVotes 18 = .ok (.iaload, 1) := by decide +kernel
theorem dX4_countVotes_19 : decode cX4_countVotes 19 = .ok (.iload_n 1, 1) := by decide +kernel
theorem dX4_countVotes_20 : decode cX4_countVotes 20 = .ok (.if_icmp .ne 6, 3) := by decide +kernel
theorem dX4_countVotes_23 : decode cX4_countVotes 23 = .ok (.iinc 2 1, 3) := by decide +kernel
theorem dX4_countVotes_26 : decode cX4_countVotes 26 = .ok (.iinc 3 1, 3) := by decide +kernel
theorem dX4_countVotes_29 : decode cX4_countVotes 29 = .ok (.goto (-25), 3) := by decide +kernel
theorem dX4_countVotes_32 : decode cX4_countVotes 32 = .ok (.iload_n 2, 1) := by decide +kernel
theorem dX4_countVotes_33 : decode cX4_countVotes 33 = .ok (.ireturn, 1) := by decide +kernel
theorem dX4_decide_0 : decode cX4_decide 0 = .ok (.iconst 2, 1) := by decide +kernel
theorem dX4_decide_1 : decode cX4_decide 1 = .ok (.aload_n 0, 1) := by decide +kernel
theorem dX4_decide_2 : decode cX4_decide 2 = .ok (.iconst 1, 1) := by decide +kernel
theorem dX4_decide_3 : decode cX4_decide 3 = .ok (.invokevirtual 28, 3) := by decide +kernel
theorem dX4_decide_6 : decode cX4_decide 6 = .ok (.imul, 1) := by decide +kernel
theorem dX4_decide_7 : decode cX4_decide 7 = .ok (.iload_n 1, 1) := by decide +kernel
theorem dX4_decide_8 : decode cX4_decide 8 = .ok (.if_icmp .le 18, 3) := by decide +kernel
theorem dX4_decide_11 : decode cX4_decide 11 = .ok (.aload_n 0, 1) := by decide +kernel
theorem dX4_decide_12 : decode cX4_decide 12 = .ok (.iconst 1, 1) := by decide +kernel
theorem dX4_decide_13 : decode cX4_decide 13 = .ok (.putfield 15, 3) := by decide +kernel
theorem dX4_decide_16 : decode cX4_decide 16 = .ok (.aload_n 0, 1) := by decide +kernel
theorem dX4_decide_17 : decode cX4_decide 17 = .ok (.iload_n 2, 1) := by decide +kernel
theorem dX4_decide_18 : decode cX4_decide 18 = .ok (.iconst 1, 1) := by decide +kernel
theorem dX4_decide_19 : decode cX4_decide 19 = .ok (.iadd, 1) := by decide +kernel
theorem dX4_decide_20 : decode cX4_decide 20 = .ok (.putfield 19, 3) := by decide +kernel
theorem dX4_decide_23 : decode cX4_decide 23 = .ok (.goto 23, 3) := by decide +kernel
theorem dX4_decide_26 : decode cX4_decide 26 = .ok (.iload_n 1, 1) := by decide +kernel
theorem dX4_decide_27 : decode cX4_decide 27 = .ok (.ifCond .le 19, 3) := by decide +kernel
theorem dX4_decide_30 : decode cX4_decide 30 = .ok (.iconst 2, 1) := by decide +kernel
theorem dX4_decide_31 : decode cX4_decide 31 = .ok (.aload_n 0, 1) := by decide +kernel
theorem dX4_decide_32 : decode cX4_decide 32 = .ok (.iconst 2, 1) := by decide +kernel
theorem dX4_decide_33 : decode cX4_decide 33 = .ok (.invokevirtual 28, 3) := by decide +kernel
theorem dX4_decide_36 : decode cX4_decide 36 = .ok (.imul, 1) := by decide +kernel
theorem dX4_decide_37 : decode cX4_decide 37 = .ok (.iload_n 1, 1) := by decide +kernel
theorem dX4_decide_38 : decode cX4_decide 38 = .ok (.if_icmp .lt 8, 3) := by decide +kernel
theorem dX4_decide_41 : decode cX4_decide 41 = .ok (.aload_n 0, 1) := by decide +kernel
theorem dX4_decide_42 : decode cX4_decide 42 = .ok (.iconst 2, 1) := by decide +kernel
theorem dX4_decide_43 : decode cX4_decide 43 = .ok (.putfield 15, 3) := by decide +kernel
theorem dX4_decide_46 : decode cX4_decide 46 = .ok (.return_, 1) := by decide +kernel
theorem dX4_isInForce_0 : decode cX4_isInForce 0 = .ok (.aload_n 0, 1) := by decide +kernel
theorem dX4_isInForce_1 : decode cX4_isInForce 1 = .ok (.getfield 15, 3) := by decide +kernel
theorem dX4_isInForce_4 : decode cX4_isInForce 4 = .ok (.iconst 1, 1) := by decide +kernel
theorem dX4_isInForce_5 : decode cX4_isInForce 5 = .ok (.if_icmp .ne 15, 3) := by decide +kernel
theorem dX4_isInForce_8 : decode cX4_isInForce 8 = .ok (.aload_n 0, 1) := by decide +kernel
theorem dX4_isInForce_9 : decode cX4_isInForce 9 = .ok (.getfield 19, 3) := by decide +kernel
theorem dX4_isInForce_12 : decode cX4_isInForce 12 = .ok (.iload_n 1, 1) := by decide +kernel
theorem dX4_isInForce_13 : decode cX4_isInForce 13 = .ok (.if_icmp .gt 7, 3) := by decide +kernel
theorem dX4_isInForce_16 : decode cX4_isInForce 16 = .ok (.iconst 1, 1) := by decide +kernel
theorem dX4_isInForce_17 : decode cX4_isInForce 17 = .ok (.goto 4, 3) := by decide +kernel
theorem dX4_isInForce_20 : decode cX4_isInForce 20 = .ok (.iconst 0, 1) := by decide +kernel
theorem dX4_isInForce_21 : decode cX4_isInForce 21 = .ok (.ireturn, 1) := by decide +kernel
theorem dJ5_init_d00df_0 : decode cJ5_init_d00df 0 = .ok (.aload_n 0, 1) := by decide +kernel
theorem dJ5_init_d00df_1 : decode cJ5_init_d00df 1 = .ok (.invokespecial 3, 3) := by decide +kernel
theorem dJ5_init_d00df_4 : decode cJ5_init_d00df 4 = .ok (.getstatic 18, 3) := by decide +kernel
theorem dJ5_init_d00df_7 : decode cJ5_init_d00df 7 = .ok (.ifCond .eq 18, 3) := by decide +kernel
theorem dJ5_init_d00df_10 : decode cJ5_init_d00df 10 = .ok (.aload_n 0, 1) := by decide +kernel
theorem dJ5_init_d00df_11 : decode cJ5_init_d00df 11 = .ok (.iload_n 1, 1) := by decide +kernel
theorem dJ5_init_d00df_12 : decode cJ5_init_d00df 12 = .ok (.newarray .byte, 2) := by decide +kernel
theorem dJ5_init_d00df_14 : decode cJ5_init_d00df 14 = .ok (.putfield 15, 3) := by decide +kernel
theorem dJ5_init_d00df_17 : decode cJ5_init_d00df 17 = .ok (.aload_n 0, 1) := by decide +kernel
theorem dJ5_init_d00df_18 : decode cJ5_init_d00df 18 = .ok (.iconst 0, 1) := by decide +kernel
theorem dJ5_init_d00df_19 : decode cJ5_init_d00df 19 = .ok (.putfield 22, 3) := by decide +kernel
theorem dJ5_init_d00df_22 : decode cJ5_init_d00df 22 = .ok (.goto 16, 3) := by decide +kernel
theorem dJ5_init_d00df_25 : decode cJ5_init_d00df 25 = .ok (.aload_n 0, 1) := by decide +kernel
theorem dJ5_init_d00df_26 : decode cJ5_init_d00df 26 = .ok (.iload_n 1, 1) := by decide +kernel
theorem dJ5_init_d00df_27 : decode cJ5_init_d00df 27 = .ok (.invokestatic 26, 3) := by decide +kernel
theorem dJ5_init_d00df_30 : decode cJ5_init_d00df 30 = .ok (.putfield 15, 3) := by decide +kernel
theorem dJ5_init_d00df_33 : decode cJ5_init_d00df 33 = .ok (.aload_n 0, 1) := by decide +kernel
theorem dJ5_init_d00df_34 : decode cJ5_init_d00df 34 = .ok (.iconst 1, 1) := by decide +kernel
theorem dJ5_init_d00df_35 : decode cJ5_init_d00df 35 = .ok (.putfield 22, 3) := by decide +kernel
theorem dJ5_init_d00df_38 : decode cJ5_init_d00df 38 = .ok (.return_, 1) := by decide +kernel
theorem dJ5_length_8abf5_0 : decode cJ5_length_8abf5 0 = .ok (.aload_n 0, 1) := by decide +kernel
theorem dJ5_length_8abf5_1 : decode cJ5_length_8abf5 1 = .ok (.getfield 79, 3) := by decide +kernel
theorem dJ5_length_8abf5_4 : decode cJ5_length_8abf5 4 = .ok (.ireturn, 1) := by decide +kernel
theorem dJ5_ensureCapacityInternal_d00df_0 : decode cJ5_ensureCapacityInternal_d00df 0 = .ok (.aload_n 0, 1) := by decide +kernel
theorem dJ5_ensureCapacityInternal_d00df_1 : decode cJ5_ensureCapacityInternal_d00df 1 = .ok (.getfield 15, 3) := by decide +kernel
theorem dJ5_ensureCapacityInternal_d00df_4 : decode cJ5_ensureCapacityInternal_d00df 4 = .ok (.arraylength, 1) := by decide +kernel
theorem dJ5_ensureCapacityInternal_d00df_5 : decode cJ5_ensureCapacityInternal_d00df 5 = .ok (.aload_n 0, 1) := by decide +kernel
theorem dJ5_ensureCapacityInternal_d00df_6 : decode cJ5_ensureCapacityInternal_d00df 6 = .ok (.getfield 22, 3) := by decide +kernel
theorem dJ5_ensureCapacityInternal_d00df_9 : decode cJ5_ensureCapacityInternal_d00df 9 = .ok (.ishr, 1) := by decide +kernel
theorem dJ5_ensureCapacityInternal_d00df_10 : decode cJ5_ensureCapacityInternal_d00df 10 = .ok (.istore_n 2, 1) := by decide +kernel
theorem dJ5_ensureCapacityInternal_d00df_11 : decode cJ5_ensureCapacityInternal_d00df 11 = .ok (.iload_n 1, 1) := by decide +kernel
theorem dJ5_ensureCapacityInternal_d00df_12 : decode cJ5_ensureCapacityInternal_d00df 12 = .ok (.iload_n 2, 1) := by decide +kernel
theorem dJ5_ensureCapacityInternal_d00df_13 : decode cJ5_ensureCapacityInternal_d00df 13 = .ok (.isub, 1) := by decide +kernel
theorem dJ5_ensureCapacityInternal_d00df_14 : decode cJ5_ensureCapacityInternal_d00df 14 = .ok (.ifCond .le 24, 3) := by decide +kernel
theorem dJ5_ensureCapacityInternal_d00df_17 : decode cJ5_ensureCapacityInternal_d00df 17 = .ok (.aload_n 0, 1) := by decide +kernel
theorem dJ5_ensureCapacityInternal_d00df_18 : decode cJ5_ensureCapacityInternal_d00df 18 = .ok (.aload_n 0, 1) := by decide +kernel
theorem dJ5_ensureCapacityInternal_d00df_19 : decode cJ5_ensureCapacityInternal_d00df 19 = .ok (.getfield 15, 3) := by decide +kernel
theorem dJ5_ensureCapacityInternal_d00df_22 : decode cJ5_ensureCapacityInternal_d00df 22 = .ok (.aload_n 0, 1) := by decide +kernel
theorem dJ5_ensureCapacityInternal_d00df_23 : decode cJ5_ensureCapacityInternal_d00df 23 = .ok (.iload_n 1, 1) := by decide +kernel
theorem dJ5_ensureCapacityInternal_d00df_24 : decode cJ5_ensureCapacityInternal_d00df 24 = .ok (.invokevirtual 104, 3) := by decide +kernel
theorem dJ5_ensureCapacityInternal_d00df_27 : decode cJ5_ensureCapacityInternal_d00df 27 = .ok (.aload_n 0, 1) := by decide +kernel
theorem dJ5_ensureCapacityInternal_d00df_28 : decode cJ5_ensureCapacityInternal_d00df 28 = .ok (.getfield 22, 3) := by decide +kernel
theorem dJ5_ensureCapacityInternal_d00df_31 : decode cJ5_ensureCapacityInternal_d00df 31 = .ok (.ishl, 1) := by decide +kernel
theorem dJ5_ensureCapacityInternal_d00df_32 : decode cJ5_ensureCapacityInternal_d00df 32 = .ok (.invokestatic 108, 3) := by decide +kernel
theorem dJ5_ensureCapacityInternal_d00df_35 : decode cJ5_ensureCapacityInternal_d00df 35 = .ok (.putfield 15, 3) := by decide +kernel
theorem dJ5_ensureCapacityInternal_d00df_38 : decode cJ5_ensureCapacityInternal_d00df 38 = .ok (.return_, 1) := by decide +kernel
theorem dJ5_newCapacity_0f7a4_0 : decode cJ5_newCapacity_0f7a4 0 = .ok (.aload_n 0, 1) := by decide +kernel
theorem dJ5_newCapacity_0f7a4_1 : decode cJ5_newCapacity_0f7a4 1 = .ok (.getfield 15, 3) := by decide +kernel
theorem dJ5_newCapacity_0f7a4_4 : decode cJ5_newCapacity_0f7a4 4 = .ok (.arraylength, 1) := by decide +kernel
theorem dJ5_newCapacity_0f7a4_5 : decode cJ5_newCapacity_0f7a4 5 = .ok (.istore_n 2, 1) := by decide +kernel
theorem dJ5_newCapacity_0f7a4_6 : decode cJ5_newCapacity_0f7a4 6 = .ok (.iload_n 1, 1) := by decide +kernel
theorem dJ5_newCapacity_0f7a4_7 : decode cJ5_newCapacity_0f7a4 7 = .ok (.aload_n 0, 1) := by decide +kernel
theorem dJ5_newCapacity_0f7a4_8 : decode cJ5_newCapacity_0f7a4 8 = .ok (.getfield 22, 3) := by decide +kernel
theorem dJ5_newCapacity_0f7a4_11 : decode cJ5_newCapacity_0f7a4 11 = .ok (.ishl, 1) := by decide +kernel
theorem dJ5_newCapacity_0f7a4_12 : decode cJ5_newCapacity_0f7a4 12 = .ok (.istore_n 3, 1) := by decide +kernel
theorem dJ5_newCapacity_0f7a4_13 : decode cJ5_newCapacity_0f7a4 13 = .ok (.iload_n 3, 1) := by decide +kernel
theorem dJ5_newCapacity_0f7a4_14 : decode cJ5_newCapacity_0f7a4 14 = .ok (.iload_n 2, 1) := by decide +kernel
theorem dJ5_newCapacity_0f7a4_15 : decode cJ5_newCapacity_0f7a4 15 = .ok (.isub, 1) := by decide +kernel
theorem dJ5_newCapacity_0f7a4_16 : decode cJ5_newCapacity_0f7a4 16 = .ok (.istore 4, 2) := by decide +kernel
theorem dJ5_newCapacity_0f7a4_18 : decode cJ5_newCapacity_0f7a4 18 = .ok (.iload_n 2, 1) := by decide +kernel
theorem dJ5_newCapacity_0f7a4_19 : decode cJ5_newCapacity_0f7a4 19 = .ok (.iload 4, 2) := by decide +kernel
theorem dJ5_newCapacity_0f7a4_21 : decode cJ5_newCapacity_0f7a4 21 = .ok (.iload_n 2, 1) := by decide +kernel
theorem dJ5_newCapacity_0f7a4_22 : decode cJ5_newCapacity_0f7a4 22 = .ok (.iconst 2, 1) := by decide +kernel
theorem dJ5_newCapacity_0f7a4_23 : decode cJ5_newCapacity_0f7a4 23 = .ok (.aload_n 0, 1) := by decide +kernel
theorem dJ5_newCapacity_0f7a4_24 : decode cJ5_newCapacity_0f7a4 24 = .ok (.getfield 22, 3) := by decide +kernel
theorem dJ5_newCapacity_0f7a4_27 : decode cJ5_newCapacity_0f7a4 27 = .ok (.ishl, 1) := by decide +kernel
theorem dJ5_newCapacity_0f7a4_28 : decode cJ5_newCapacity_0f7a4 28 = .ok (.iadd, 1) := by decide +kernel
theorem dJ5_newCapacity_0f7a4_29 : decode cJ5_newCapacity_0f7a4 29 = .ok (.invokestatic 114, 3) := by decide +kernel
theorem dJ5_newCapacity_0f7a4_32 : decode cJ5_newCapacity_0f7a4 32 = .ok (.istore 5, 2) := by decide +kernel
theorem dJ5_newCapacity_0f7a4_34 : decode cJ5_newCapacity_0f7a4 34 = .ok (.iload 5, 2) := by decide +kernel
theorem dJ5_newCapacity_0f7a4_36 : decode cJ5_newCapacity_0f7a4 36 = .ok (.ldc 39, 2) := by decide +kernel
theorem dJ5_newCapacity_0f7a4_38 : decode cJ5_newCapacity_0f7a4 38 = .ok (.if_icmp .ne 13, 3) := by decide +kernel
theorem dJ5_newCapacity_0f7a4_41 : decode cJ5_newCapacity_0f7a4 41 = .ok (.new 120, 3) := by decide +kernel
theorem dJ5_newCapacity_0f7a4_44 : decode cJ5_newCapacity_0f7a4 44 = .ok (.dup, 1) := by decide +kernel
theorem dJ5_newCapacity_0f7a4_45 : decode cJ5_newCapacity_0f7a4 45 = .ok (.ldc 122, 2) := by decide +kernel
theorem dJ5_newCapacity_0f7a4_47 : decode cJ5_newCapacity_0f7a4 47 = .ok (.invokespecial 124, 3) := by decide +kernel
theorem dJ5_newCapacity_0f7a4_50 : decode cJ5_newCapacity_0f7a4 50 = .ok (.athrow, 1) := by decide +kernel
theorem dJ5_newCapacity_0f7a4_51 : decode cJ5_newCapacity_0f7a4 51 = .ok (.iload 5, 2) := by decide +kernel
theorem dJ5_newCapacity_0f7a4_53 : decode cJ5_newCapacity_0f7a4 53 = .ok (.aload_n 0, 1) := by decide +kernel
theorem dJ5_newCapacity_0f7a4_54 : decode cJ5_newCapacity_0f7a4 54 = .ok (.getfield 22, 3) := by decide +kernel
theorem dJ5_newCapacity_0f7a4_57 : decode cJ5_newCapacity_0f7a4 57 = .ok (.ishr, 1) := by decide +kernel
theorem dJ5_newCapacity_0f7a4_58 : decode cJ5_newCapacity_0f7a4 58 = .ok (.ireturn, 1) := by decide +kernel
theorem dJ5_inflate_da8c8_0 : decode cJ5_inflate_da8c8 0 = .ok (.aload_n 0, 1) := by decide +kernel
theorem dJ5_inflate_da8c8_1 : decode cJ5_inflate_da8c8 1 = .ok (.invokevirtual 83, 3) := by decide +kernel
theorem dJ5_inflate_da8c8_4 : decode cJ5_inflate_da8c8 4 = .ok (.ifCond .ne 4, 3) := by decide +kernel
theorem dJ5_inflate_da8c8_7 : decode cJ5_inflate_da8c8 7 = .ok (.return_, 1) := by decide +kernel
theorem dJ5_inflate_da8c8_8 : decode cJ5_inflate_da8c8 8 = .ok (.aload_n 0, 1) := by decide +kernel
theorem dJ5_inflate_da8c8_9 : decode cJ5_inflate_da8c8 9 = .ok (.getfield 15, 3) := by decide +kernel
theorem dJ5_inflate_da8c8_12 : decode cJ5_inflate_da8c8 12 = .ok (.arraylength, 1) := by decide +kernel
theorem dJ5_inflate_da8c8_13 : decode cJ5_inflate_da8c8 13 = .ok (.invokestatic 26, 3) := by decide +kernel
theorem dJ5_inflate_da8c8_16 : decode cJ5_inflate_da8c8 16 = .ok (.astore_n 1, 1) := by decide +kernel
theorem dJ5_inflate_da8c8_17 : decode cJ5_inflate_da8c8 17 = .ok (.aload_n 0, 1) := by decide +kernel
theorem dJ5_inflate_da8c8_18 : decode cJ5_inflate_da8c8 18 = .ok (.getfield 15, 3) := by decide +kernel
theorem dJ5_inflate_da8c8_21 : decode cJ5_inflate_da8c8 21 = .ok (.iconst 0, 1) := by decide +kernel
theorem dJ5_inflate_da8c8_22 : decode cJ5_inflate_da8c8 22 = .ok (.aload_n 1, 1) := by decide +kernel
theorem dJ5_inflate_da8c8_23 : decode cJ5_inflate_da8c8 23 = .ok (.iconst 0, 1) := by decide +kernel
theorem dJ5_inflate_da8c8_24 : decode cJ5_inflate_da8c8 24 = .ok (.aload_n 0, 1) := by decide +kernel
theorem dJ5_inflate_da8c8_25 : decode cJ5_inflate_da8c8 25 = .ok (.getfield 79, 3) := by decide +kernel
theorem dJ5_inflate_da8c8_28 : decode cJ5_inflate_da8c8 28 = .ok (.invokestatic 125, 3) := by decide +kernel
theorem dJ5_inflate_da8c8_31 : decode cJ5_inflate_da8c8 31 = .ok (.aload_n 0, 1) := by decide +kernel
theorem dJ5_inflate_da8c8_32 : decode cJ5_inflate_da8c8 32 = .ok (.aload_n 1, 1) := by decide +kernel
theorem dJ5_inflate_da8c8_33 : decode cJ5_inflate_da8c8 33 = .ok (.putfield 15, 3) := by decide +kernel
theorem dJ5_inflate_da8c8_36 : decode cJ5_inflate_da8c8 36 = .ok (.aload_n 0, 1) := by decide +kernel
theorem dJ5_inflate_da8c8_37 : decode cJ5_inflate_da8c8 37 = .ok (.iconst 1, 1) := by decide +kernel
theorem dJ5_inflate_da8c8_38 : decode cJ5_inflate_da8c8 38 = .ok (.putfield 22, 3) := by decide +kernel
theorem dJ5_inflate_da8c8_41 : decode cJ5_inflate_da8c8 41 = .ok (.return_, 1) := by decide +kernel
theorem dJ5_charAt_5068e_0 : decode cJ5_charAt_5068e 0 = .ok (.aload_n 0, 1) := by decide +kernel
theorem dJ5_charAt_5068e_1 : decode cJ5_charAt_5068e 1 = .ok (.getfield 22, 3) := by decide +kernel
theorem dJ5_charAt_5068e_4 : decode cJ5_charAt_5068e 4 = .ok (.istore_n 2, 1) := by decide +kernel
theorem dJ5_charAt_5068e_5 : decode cJ5_charAt_5068e 5 = .ok (.aload_n 0, 1) := by decide +kernel
theorem dJ5_charAt_5068e_6 : decode cJ5_charAt_5068e 6 = .ok (.getfield 15, 3) := by decide +kernel
theorem dJ5_charAt_5068e_9 : decode cJ5_charAt_5068e 9 = .ok (.astore_n 3, 1) := by decide +kernel
theorem dJ5_charAt_5068e_10 : decode cJ5_charAt_5068e 10 = .ok (.aload_n 0, 1) := by decide +kernel
theorem dJ5_charAt_5068e_11 : decode cJ5_charAt_5068e 11 = .ok (.getfield 79, 3) := by decide +kernel
theorem dJ5_charAt_5068e_14 : decode cJ5_charAt_5068e 14 = .ok (.aload_n 3, 1) := by decide +kernel
theorem dJ5_charAt_5068e_15 : decode cJ5_charAt_5068e 15 = .ok (.arraylength, 1) := by decide +kernel
theorem dJ5_charAt_5068e_16 : decode cJ5_charAt_5068e 16 = .ok (.iload_n 2, 1) := by decide +kernel
theorem dJ5_charAt_5068e_17 : decode cJ5_charAt_5068e 17 = .ok (.ishr, 1) := by decide +kernel
theorem dJ5_charAt_5068e_18 : decode cJ5_charAt_5068e 18 = .ok (.invokestatic 138, 3) := by decide +kernel
theorem dJ5_charAt_5068e_21 : decode cJ5_charAt_5068e 21 = .ok (.istore 4, 2) := by decide +kernel
theorem dJ5_charAt_5068e_23 : decode cJ5_charAt_5068e 23 = .ok (.iload_n 1, 1) := by decide +kernel
theorem dJ5_charAt_5068e_24 : decode cJ5_charAt_5068e 24 = .ok (.iload 4, 2) := by decide +kernel
theorem dJ5_charAt_5068e_26 : decode cJ5_charAt_5068e 26 = .ok (.invokestatic 144, 3) := by decide +kernel
theorem dJ5_charAt_5068e_29 : decode cJ5_charAt_5068e 29 = .ok (.iload_n 2, 1) := by decide +kernel
theorem dJ5_charAt_5068e_30 : decode cJ5_charAt_5068e 30 = .ok (.ifCond .ne 12, 3) := by decide +kernel
theorem dJ5_charAt_5068e_33 : decode cJ5_charAt_5068e 33 = .ok (.aload_n 3, 1) := by decide +kernel
theorem dJ5_charAt_5068e_34 : decode cJ5_charAt_5068e 34 = .ok (.iload_n 1, 1) := by decide +kernel
theorem dJ5_charAt_5068e_35 : decode cJ5_charAt_5068e 35 = .ok (.baload, 1) := by decide +kernel
theorem dJ5_charAt_5068e_36 : decode cJ5_charAt_5068e 36 = .ok (.sipush 255, 3) := by decide +kernel
theorem dJ5_charAt_5068e_39 : decode cJ5_charAt_5068e 39 = .ok (.iand, 1) := by decide +kernel
theorem dJ5_charAt_5068e_40 : decode cJ5_charAt_5068e 40 = .ok (.i2c, 1) := by decide +kernel
theorem dJ5_charAt_5068e_41 : decode cJ5_charAt_5068e 41 = .ok (.ireturn, 1) := by decide +kernel
theorem dJ5_charAt_5068e_42 : decode cJ5_charAt_5068e 42 = .ok (.aload_n 3, 1) := by decide +kernel
theorem dJ5_charAt_5068e_43 : decode cJ5_charAt_5068e 43 = .ok (.iload_n 1, 1) := by decide +kernel
theorem dJ5_charAt_5068e_44 : decode cJ5_charAt_5068e 44 = .ok (.invokestatic 148, 3) := by decide +kernel
theorem dJ5_charAt_5068e_47 : decode cJ5_charAt_5068e 47 = .ok (.ireturn, 1) := by decide +kernel
theorem dJ5_append_3fe6f_0 : decode cJ5_append_3fe6f 0 = .ok (.aload_n 0, 1) := by decide +kernel
theorem dJ5_append_3fe6f_1 : decode cJ5_append_3fe6f 1 = .ok (.aload_n 0, 1) := by decide +kernel
theorem dJ5_append_3fe6f_2 : decode cJ5_append_3fe6f 2 = .ok (.getfield 79, 3) := by decide +kernel
theorem dJ5_append_3fe6f_5 : decode cJ5_append_3fe6f 5 = .ok (.iconst 1, 1) := by decide +kernel
theorem dJ5_append_3fe6f_6 : decode cJ5_append_3fe6f 6 = .ok (.iadd, 1) := by decide +kernel
theorem dJ5_append_3fe6f_7 : decode cJ5_append_3fe6f 7 = .ok (.invokevirtual 100, 3) := by decide +kernel
theorem dJ5_append_3fe6f_10 : decode cJ5_append_3fe6f 10 = .ok (.aload_n 0, 1) := by decide +kernel
theorem dJ5_append_3fe6f_11 : decode cJ5_append_3fe6f 11 = .ok (.invokevirtual 83, 3) := by decide +kernel
theorem dJ5_append_3fe6f_14 : decode cJ5_append_3fe6f 14 = .ok (.ifCond .eq 31, 3) := by decide +kernel
theorem dJ5_append_3fe6f_17 : decode cJ5_append_3fe6f 17 = .ok (.iload_n 1, 1) := by decide +kernel
theorem dJ5_append_3fe6f_18 : decode cJ5_append_3fe6f 18 = .ok (.invokestatic 191, 3) := by decide +kernel
theorem dJ5_append_3fe6f_21 : decode cJ5_append_3fe6f 21 = .ok (.ifCond .eq 24, 3) := by decide +kernel
theorem dJ5_append_3fe6f_24 : decode cJ5_append_3fe6f 24 = .ok (.aload_n 0, 1) := by decide +kernel
theorem dJ5_append_3fe6f_25 : decode cJ5_append_3fe6f 25 = .ok (.getfield 15, 3) := by decide +kernel
theorem dJ5_append_3fe6f_28 : decode cJ5_append_3fe6f 28 = .ok (.aload_n 0, 1) := by decide +kernel
theorem dJ5_append_3fe6f_29 : decode cJ5_append_3fe6f 29 = .ok (.dup, 1) := by decide +kernel
theorem dJ5_append_3fe6f_30 : decode cJ5_append_3fe6f 30 = .ok (.getfield 79, 3) := by decide +kernel
theorem dJ5_append_3fe6f_33 : decode cJ5_append_3fe6f 33 = .ok (.dup_x1, 1) := by decide +kernel
theorem dJ5_append_3fe6f_34 : decode cJ5_append_3fe6f 34 = .ok (.iconst 1, 1) := by decide +kernel
theorem dJ5_append_3fe6f_35 : decode cJ5_append_3fe6f 35 = .ok (.iadd, 1) := by decide +kernel
theorem dJ5_append_3fe6f_36 : decode cJ5_append_3fe6f 36 = .ok (.putfield 79, 3) := by decide +kernel
theorem dJ5_append_3fe6f_39 : decode cJ5_append_3fe6f 39 = .ok (.iload_n 1, 1) := by decide +kernel
theorem dJ5_append_3fe6f_40 : decode cJ5_append_3fe6f 40 = .ok (.i2b, 1) := by decide +kernel
theorem dJ5_append_3fe6f_41 : decode cJ5_append_3fe6f 41 = .ok (.bastore, 1) := by decide +kernel
theorem dJ5_append_3fe6f_42 : decode cJ5_append_3fe6f 42 = .ok (.goto 33, 3) := by decide +kernel
theorem dJ5_append_3fe6f_45 : decode cJ5_append_3fe6f 45 = .ok (.aload_n 0, 1) := by decide +kernel
theorem dJ5_append_3fe6f_46 : decode cJ5_append_3fe6f 46 = .ok (.invokevirtual 83, 3) := by decide +kernel
theorem dJ5_append_3fe6f_49 : decode cJ5_append_3fe6f 49 = .ok (.ifCond .eq 7, 3) := by decide +kernel
theorem dJ5_append_3fe6f_52 : decode cJ5_append_3fe6f 52 = .ok (.aload_n 0, 1) := by decide +kernel
theorem dJ5_append_3fe6f_53 : decode cJ5_append_3fe6f 53 = .ok (.invokevirtual 195, 3) := by decide +kernel
theorem dJ5_append_3fe6f_56 : decode cJ5_append_3fe6f 56 = .ok (.aload_n 0, 1) := by decide +kernel
theorem dJ5_append_3fe6f_57 : decode cJ5_append_3fe6f 57 = .ok (.getfield 15, 3) := by decide +kernel
theorem dJ5_append_3fe6f_60 : decode cJ5_append_3fe6f 60 = .ok (.aload_n 0, 1) := by decide +kernel
theorem dJ5_append_3fe6f_61 : decode cJ5_append_3fe6f 61 = .ok (.dup, 1) := by decide +kernel
theorem dJ5_append_3fe6f_62 : decode cJ5_append_3fe6f 62 = .ok (.getfield 79, 3) := by decide +kernel
theorem dJ5_append_3fe6f_65 : decode cJ5_append_3fe6f 65 = .ok (.dup_x1, 1) := by decide +kernel
theorem dJ5_append_3fe6f_66 : decode cJ5_append_3fe6f 66 = .ok (.iconst 1, 1) := by decide +kernel
theorem dJ5_append_3fe6f_67 : decode cJ5_append_3fe6f 67 = .ok (.iadd, 1) := by decide +kernel
theorem dJ5_append_3fe6f_68 : decode cJ5_append_3fe6f 68 = .ok (.putfield 79, 3) := by decide +kernel
theorem dJ5_append_3fe6f_71 : decode cJ5_append_3fe6f 71 = .ok (.iload_n 1, 1) := by decide +kernel
theorem dJ5_append_3fe6f_72 : decode cJ5_append_3fe6f 72 = .ok (.invokestatic 197, 3) := by decide +kernel
theorem dJ5_append_3fe6f_75 : decode cJ5_append_3fe6f 75 = .ok (.aload_n 0, 1) := by decide +kernel
theorem dJ5_append_3fe6f_76 : decode cJ5_append_3fe6f 76 = .ok (.areturn, 1) := by decide +kernel
theorem dJ5_isLatin1_aae02_0 : decode cJ5_isLatin1_aae02 0 = .ok (.getstatic 18, 3) := by decide +kernel
theorem dJ5_isLatin1_aae02_3 : decode cJ5_isLatin1_aae02 3 = .ok (.ifCond .eq 14, 3) := by decide +kernel
theorem dJ5_isLatin1_aae02_6 : decode cJ5_isLatin1_aae02 6 = .ok (.aload_n 0, 1) := by decide +kernel
theorem dJ5_isLatin1_aae02_7 : decode cJ5_isLatin1_aae02 7 = .ok (.getfield 22, 3) := by decide +kernel
theorem dJ5_isLatin1_aae02_10 : decode cJ5_isLatin1_aae02 10 = .ok (.ifCond .ne 7, 3) := by decide +kernel
theorem dJ5_isLatin1_aae02_13 : decode cJ5_isLatin1_aae02 13 = .ok (.iconst 1, 1) := by decide +kernel
theorem dJ5_isLatin1_aae02_14 : decode cJ5_isLatin1_aae02 14 = .ok (.goto 4, 3) := by decide +kernel
theorem dJ5_isLatin1_aae02_17 : decode cJ5_isLatin1_aae02 17 = .ok (.iconst 0, 1) := by decide +kernel
theorem dJ5_isLatin1_aae02_18 : decode cJ5_isLatin1_aae02 18 = .ok (.ireturn, 1) := by decide +kernel
theorem dJ9_max_7cf53_0 : decode cJ9_max_7cf53 0 = .ok (.iload_n 0, 1) := by decide +kernel
theorem dJ9_max_7cf53_1 : decode cJ9_max_7cf53 1 = .ok (.iload_n 1, 1) := by decide +kernel
theorem dJ9_max_7cf53_2 : decode cJ9_max_7cf53 2 = .ok (.if_icmp .lt 7, 3) := by decide +kernel
theorem dJ9_max_7cf53_5 : decode cJ9_max_7cf53 5 = .ok (.iload_n 0, 1) := by decide +kernel
theorem dJ9_max_7cf53_6 : decode cJ9_max_7cf53 6 = .ok (.goto 4, 3) := by decide +kernel
theorem dJ9_max_7cf53_9 : decode cJ9_max_7cf53 9 = .ok (.iload_n 1, 1) := by decide +kernel
theorem dJ9_max_7cf53_10 : decode cJ9_max_7cf53 10 = .ok (.ireturn, 1) := by decide +kernel
theorem dJ9_min_7cf53_0 : decode cJ9_min_7cf53 0 = .ok (.iload_n 0, 1) := by decide +kernel
theorem dJ9_min_7cf53_1 : decode cJ9_min_7cf53 1 = .ok (.iload_n 1, 1) := by decide +kernel
theorem dJ9_min_7cf53_2 : decode cJ9_min_7cf53 2 = .ok (.if_icmp .gt 7, 3) := by decide +kernel
theorem dJ9_min_7cf53_5 : decode cJ9_min_7cf53 5 = .ok (.iload_n 0, 1) := by decide +kernel
theorem dJ9_min_7cf53_6 : decode cJ9_min_7cf53 6 = .ok (.goto 4, 3) := by decide +kernel
theorem dJ9_min_7cf53_9 : decode cJ9_min_7cf53 9 = .ok (.iload_n 1, 1) := by decide +kernel
theorem dJ9_min_7cf53_10 : decode cJ9_min_7cf53 10 = .ok (.ireturn, 1) := by decide +kernel
theorem dJ0_checkIndex_df160_0 : decode cJ0_checkIndex_df160 0 = .ok (.iload_n 0, 1) := by decide +kernel
theorem dJ0_checkIndex_df160_1 : decode cJ0_checkIndex_df160 1 = .ok (.iload_n 1, 1) := by decide +kernel
theorem dJ0_checkIndex_df160_2 : decode cJ0_checkIndex_df160 2 = .ok (.getstatic 1053, 3) := by decide +kernel
theorem dJ0_checkIndex_df160_5 : decode cJ0_checkIndex_df160 5 = .ok (.invokestatic 1059, 3) := by decide +kernel
theorem dJ0_checkIndex_df160_8 : decode cJ0_checkIndex_df160 8 = .ok (.pop, 1) := by decide +kernel
theorem dJ0_checkIndex_df160_9 : decode cJ0_checkIndex_df160 9 = .ok (.return_, 1) := by decide +kernel
theorem dJ0_checkBoundsOffCount_cabcc_0 : decode cJ0_checkBoundsOffCount_cabcc 0 = .ok (.iload_n 0, 1) := by decide +kernel
theorem dJ0_checkBoundsOffCount_cabcc_1 : decode cJ0_checkBoundsOffCount_cabcc 1 = .ok (.iload_n 1, 1) := by decide +kernel
theorem dJ0_checkBoundsOffCount_cabcc_2 : decode cJ0_checkBoundsOffCount_cabcc 2 = .ok (.iload_n 2, 1) := by decide +kernel
theorem dJ0_checkBoundsOffCount_cabcc_3 : decode cJ0_checkBoundsOffCount_cabcc 3 = .ok (.getstatic 1053, 3) := by decide +kernel
theorem dJ0_checkBoundsOffCount_cabcc_6 : decode cJ0_checkBoundsOffCount_cabcc 6 = .ok (.invokestatic 1065, 3) := by decide +kernel
theorem dJ0_checkBoundsOffCount_cabcc_9 : decode cJ0_checkBoundsOffCount_cabcc 9 = .ok (.ireturn, 1) := by decide +kernel
theorem dJ4_init_da8c8_0 : decode cJ4_init_da8c8 0 = .ok (.aload_n 0, 1) := by decide +kernel
theorem dJ4_init_da8c8_1 : decode cJ4_init_da8c8 1 = .ok (.bipush 16, 2) := by decide +kernel
theorem dJ4_init_da8c8_3 : decode cJ4_init_da8c8 3 = .ok (.invokespecial 1, 3) := by decide +kernel
theorem dJ4_init_da8c8_6 : decode cJ4_init_da8c8 6 = .ok (.return_, 1) := by decide +kernel
theorem dJ4_append_cf468_0 : decode cJ4_append_cf468 0 = .ok (.aload_n 0, 1) := by decide +kernel
theorem dJ4_append_cf468_1 : decode cJ4_append_cf468 1 = .ok (.iload_n 1, 1) := by decide +kernel
theorem dJ4_append_cf468_2 : decode cJ4_append_cf468 2 = .ok (.invokespecial 50, 3) := by decide +kernel
theorem dJ4_append_cf468_5 : decode cJ4_append_cf468 5 = .ok (.pop, 1) := by decide +kernel
theorem dJ4_append_cf468_6 : decode cJ4_append_cf468 6 = .ok (.aload_n 0, 1) := by decide +kernel
theorem dJ4_append_cf468_7 : decode cJ4_append_cf468 7 = .ok (.areturn, 1) := by decide +kernel
theorem dJ4_charAt_5068e_0 : decode cJ4_charAt_5068e 0 = .ok (.aload_n 0, 1) := by decide +kernel
theorem dJ4_charAt_5068e_1 : decode cJ4_charAt_5068e 1 = .ok (.iload_n 1, 1) := by decide +kernel
theorem dJ4_charAt_5068e_2 : decode cJ4_charAt_5068e 2 = .ok (.invokespecial 329, 3) := by decide +kernel
theorem dJ4_charAt_5068e_5 : decode cJ4_charAt_5068e 5 = .ok (.ireturn, 1) := by decide +kernel
theorem dJ4_length_8abf5_0 : decode cJ4_length_8abf5 0 = .ok (.aload_n 0, 1) := by decide +kernel
theorem dJ4_length_8abf5_1 : decode cJ4_length_8abf5 1 = .ok (.invokespecial 343, 3) := by decide +kernel
theorem dJ4_length_8abf5_4 : decode cJ4_length_8abf5 4 = .ok (.ireturn, 1) := by decide +kernel
theorem dJ1_canEncode_fc78d_0 : decode cJ1_canEncode_fc78d 0 = .ok (.iload_n 0, 1) := by decide +kernel
theorem dJ1_canEncode_fc78d_1 : decode cJ1_canEncode_fc78d 1 = .ok (.sipush 255, 3) := by decide +kernel
theorem dJ1_canEncode_fc78d_4 : decode cJ1_canEncode_fc78d 4 = .ok (.if_icmp .gt 7, 3) := by decide +kernel
theorem dJ1_canEncode_fc78d_7 : decode cJ1_canEncode_fc78d 7 = .ok (.iconst 1, 1) := by decide +kernel
theorem dJ1_canEncode_fc78d_8 : decode cJ1_canEncode_fc78d 8 = .ok (.goto 4, 3) := by decide +kernel
theorem dJ1_canEncode_fc78d_11 : decode cJ1_canEncode_fc78d 11 = .ok (.iconst 0, 1) := by decide +kernel
theorem dJ1_canEncode_fc78d_12 : decode cJ1_canEncode_fc78d 12 = .ok (.ireturn, 1) := by decide +kernel
theorem dJ1_inflate_0e8fd_0 : decode cJ1_inflate_0e8fd 0 = .ok (.aload_n 0, 1) := by decide +kernel
theorem dJ1_inflate_0e8fd_1 : decode cJ1_inflate_0e8fd 1 = .ok (.iload_n 1, 1) := by decide +kernel
theorem dJ1_inflate_0e8fd_2 : decode cJ1_inflate_0e8fd 2 = .ok (.aload_n 2, 1) := by decide +kernel
theorem dJ1_inflate_0e8fd_3 : decode cJ1_inflate_0e8fd 3 = .ok (.iload_n 3, 1) := by decide +kernel
theorem dJ1_inflate_0e8fd_4 : decode cJ1_inflate_0e8fd 4 = .ok (.iload 4, 2) := by decide +kernel
theorem dJ1_inflate_0e8fd_6 : decode cJ1_inflate_0e8fd 6 = .ok (.invokestatic 240, 3) := by decide +kernel
theorem dJ1_inflate_0e8fd_9 : decode cJ1_inflate_0e8fd 9 = .ok (.return_, 1) := by decide +kernel
theorem dJ2_newBytesFor_77867_0 : decode cJ2_newBytesFor_77867 0 = .ok (.iload_n 0, 1) := by decide +kernel
theorem dJ2_newBytesFor_77867_1 : decode cJ2_newBytesFor_77867 1 = .ok (.invokestatic 11, 3) := by decide +kernel
theorem dJ2_newBytesFor_77867_4 : decode cJ2_newBytesFor_77867 4 = .ok (.newarray .byte, 2) := by decide +kernel
theorem dJ2_newBytesFor_77867_6 : decode cJ2_newBytesFor_77867 6 = .ok (.areturn, 1) := by decide +kernel
theorem dJ2_newBytesLength_0f7a4_0 : decode cJ2_newBytesLength_0f7a4 0 = .ok (.iload_n 0, 1) := by decide +kernel
theorem dJ2_newBytesLength_0f7a4_1 : decode cJ2_newBytesLength_0f7a4 1 = .ok (.ifCond .ge 11, 3) := by decide +kernel
theorem dJ2_newBytesLength_0f7a4_4 : decode cJ2_newBytesLength_0f7a4 4 = .ok (.new 17, 3) := by decide +kernel
theorem dJ2_newBytesLength_0f7a4_7 : decode cJ2_newBytesLength_0f7a4 7 = .ok (.dup, 1) := by decide +kernel
theorem dJ2_newBytesLength_0f7a4_8 : decode cJ2_newBytesLength_0f7a4 8 = .ok (.invokespecial 19, 3) := by decide +kernel
theorem dJ2_newBytesLength_0f7a4_11 : decode cJ2_newBytesLength_0f7a4 11 = .ok (.athrow, 1) := by decide +kernel
theorem dJ2_newBytesLength_0f7a4_12 : decode cJ2_newBytesLength_0f7a4 12 = .ok (.iload_n 0, 1) := by decide +kernel
theorem dJ2_newBytesLength_0f7a4_13 : decode cJ2_newBytesLength_0f7a4 13 = .ok (.ldc 20, 2) := by decide +kernel
theorem dJ2_newBytesLength_0f7a4_15 : decode cJ2_newBytesLength_0f7a4 15 = .ok (.if_icmp .lt 40, 3) := by decide +kernel
theorem dJ2_newBytesLength_0f7a4_18 : decode cJ2_newBytesLength_0f7a4 18 = .ok (.new 21, 3) := by decide +kernel
theorem dJ2_newBytesLength_0f7a4_21 : decode cJ2_newBytesLength_0f7a4 21 = .ok (.dup, 1) := by decide +kernel
theorem dJ2_newBytesLength_0f7a4_22 : decode cJ2_newBytesLength_0f7a4 22 = .ok (.new 23, 3) := by decide +kernel
theorem dJ2_newBytesLength_0f7a4_25 : decode cJ2_newBytesLength_0f7a4 25 = .ok (.dup, 1) := by decide +kernel
theorem dJ2_newBytesLength_0f7a4_26 : decode cJ2_newBytesLength_0f7a4 26 = .ok (.invokespecial 25, 3) := by decide +kernel
theorem dJ2_newBytesLength_0f7a4_29 : decode cJ2_newBytesLength_0f7a4 29 = .ok (.ldc 26, 2) := by decide +kernel
theorem dJ2_newBytesLength_0f7a4_31 : decode cJ2_newBytesLength_0f7a4 31 = .ok (.invokevirtual 28, 3) := by decide +kernel
theorem dJ2_newBytesLength_0f7a4_34 : decode cJ2_newBytesLength_0f7a4 34 = .ok (.iload_n 0, 1) := by decide +kernel
theorem dJ2_newBytesLength_0f7a4_35 : decode cJ2_newBytesLength_0f7a4 35 = .ok (.invokevirtual 32, 3) := by decide +kernel
theorem dJ2_newBytesLength_0f7a4_38 : decode cJ2_newBytesLength_0f7a4 38 = .ok (.ldc 35, 2) := by decide +kernel
theorem dJ2_newBytesLength_0f7a4_40 : decode cJ2_newBytesLength_0f7a4 40 = .ok (.invokevirtual 28, 3) := by decide +kernel
theorem dJ2_newBytesLength_0f7a4_43 : decode cJ2_newBytesLength_0f7a4 43 = .ok (.ldc 20, 2) := by decide +kernel
theorem dJ2_newBytesLength_0f7a4_45 : decode cJ2_newBytesLength_0f7a4 45 = .ok (.invokevirtual 32, 3) := by decide +kernel
theorem dJ2_newBytesLength_0f7a4_48 : decode cJ2_newBytesLength_0f7a4 48 = .ok (.invokevirtual 37, 3) := by decide +kernel
theorem dJ2_newBytesLength_0f7a4_51 : decode cJ2_newBytesLength_0f7a4 51 = .ok (.invokespecial 41, 3) := by decide +kernel
theorem dJ2_newBytesLength_0f7a4_54 : decode cJ2_newBytesLength_0f7a4 54 = .ok (.athrow, 1) := by decide +kernel
theorem dJ2_newBytesLength_0f7a4_55 : decode cJ2_newBytesLength_0f7a4 55 = .ok (.iload_n 0, 1) := by decide +kernel
theorem dJ2_newBytesLength_0f7a4_56 : decode cJ2_newBytesLength_0f7a4 56 = .ok (.iconst 1, 1) := by decide +kernel
theorem dJ2_newBytesLength_0f7a4_57 : decode cJ2_newBytesLength_0f7a4 57 = .ok (.ishl, 1) := by decide +kernel
theorem dJ2_newBytesLength_0f7a4_58 : decode cJ2_newBytesLength_0f7a4 58 = .ok (.ireturn, 1) := by decide +kernel
theorem dJ2_putChar_b72d1_0 : decode cJ2_putChar_b72d1 0 = .ok (.getstatic 44, 3) := by decide +kernel
theorem dJ2_putChar_b72d1_3 : decode cJ2_putChar_b72d1 3 = .ok (.ifCond .ne 25, 3) := by decide +kernel
theorem dJ2_putChar_b72d1_6 : decode cJ2_putChar_b72d1 6 = .ok (.iload_n 1, 1) := by decide +kernel
theorem dJ2_putChar_b72d1_7 : decode cJ2_putChar_b72d1 7 = .ok (.ifCond .lt 11, 3) := by decide +kernel
theorem dJ2_putChar_b72d1_10 : decode cJ2_putChar_b72d1 10 = .ok (.iload_n 1, 1) := by decide +kernel
theorem dJ2_putChar_b72d1_11 : decode cJ2_putChar_b72d1 11 = .ok (.aload_n 0, 1) := by decide +kernel
theorem dJ2_putChar_b72d1_12 : decode cJ2_putChar_b72d1 12 = .ok (.invokestatic 48, 3) := by decide +kernel
theorem dJ2_putChar_b72d1_15 : decode cJ2_putChar_b72d1 15 = .ok (.if_icmp .lt 13, 3) := by decide +kernel
theorem dJ2_putChar_b72d1_18 : decode cJ2_putChar_b72d1 18 = .ok (.new 52, 3) := by decide +kernel
theorem dJ2_putChar_b72d1_21 : decode cJ2_putChar_b72d1 21 = .ok (.dup, 1) := by decide +kernel
theorem dJ2_putChar_b72d1_22 : decode cJ2_putChar_b72d1 22 = .ok (.ldc 54, 2) := by decide +kernel
theorem dJ2_putChar_b72d1_24 : decode cJ2_putChar_b72d1 24 = .ok (.invokespecial 56, 3) := by decide +kernel
theorem dJ2_putChar_b72d1_27 : decode cJ2_putChar_b72d1 27 = .ok (.athrow, 1) := by decide +kernel
theorem dJ2_putChar_b72d1_28 : decode cJ2_putChar_b72d1 28 = .ok (.iload_n 1, 1) := by decide +kernel
theorem dJ2_putChar_b72d1_29 : decode cJ2_putChar_b72d1 29 = .ok (.iconst 1, 1) := by decide +kernel
theorem dJ2_putChar_b72d1_30 : decode cJ2_putChar_b72d1 30 = .ok (.ishl, 1) := by decide +kernel
theorem dJ2_putChar_b72d1_31 : decode cJ2_putChar_b72d1 31 = .ok (.istore_n 1, 1) := by decide +kernel
theorem dJ2_putChar_b72d1_32 : decode cJ2_putChar_b72d1 32 = .ok (.aload_n 0, 1) := by decide +kernel
theorem dJ2_putChar_b72d1_33 : decode cJ2_putChar_b72d1 33 = .ok (.iload_n 1, 1) := by decide +kernel
theorem dJ2_putChar_b72d1_34 : decode cJ2_putChar_b72d1 34 = .ok (.iinc 1 1, 3) := by decide +kernel
theorem dJ2_putChar_b72d1_37 : decode cJ2_putChar_b72d1 37 = .ok (.iload_n 2, 1) := by decide +kernel
theorem dJ2_putChar_b72d1_38 : decode cJ2_putChar_b72d1 38 = .ok (.getstatic 59, 3) := by decide +kernel
theorem dJ2_putChar_b72d1_41 : decode cJ2_putChar_b72d1 41 = .ok (.ishr, 1) := by decide +kernel
theorem dJ2_putChar_b72d1_42 : decode cJ2_putChar_b72d1 42 = .ok (.i2b, 1) := by decide +kernel
theorem dJ2_putChar_b72d1_43 : decode cJ2_putChar_b72d1 43 = .ok (.bastore, 1) := by decide +kernel
theorem dJ2_putChar_b72d1_44 : decode cJ2_putChar_b72d1 44 = .ok (.aload_n 0, 1) := by decide +kernel
theorem dJ2_putChar_b72d1_45 : decode cJ2_putChar_b72d1 45 = .ok (.iload_n 1, 1) := by decide +kernel
theorem dJ2_putChar_b72d1_46 : decode cJ2_putChar_b72d1 46 = .ok (.iload_n 2, 1) := by decide +kernel
theorem dJ2_putChar_b72d1_47 : decode cJ2_putChar_b72d1 47 = .ok (.getstatic 63, 3) := by decide +kernel
theorem dJ2_putChar_b72d1_50 : decode cJ2_putChar_b72d1 50 = .ok (.ishr, 1) := by decide +kernel
theorem dJ2_putChar_b72d1_51 : decode cJ2_putChar_b72d1 51 = .ok (.i2b, 1) := by decide +kernel
theorem dJ2_putChar_b72d1_52 : decode cJ2_putChar_b72d1 52 = .ok (.bastore, 1) := by decide +kernel
theorem dJ2_putChar_b72d1_53 : decode cJ2_putChar_b72d1 53 = .ok (.return_, 1) := by decide +kernel
theorem dJ2_getChar_3b067_0 : decode cJ2_getChar_3b067 0 = .ok (.getstatic 44, 3) := by decide +kernel
theorem dJ2_getChar_3b067_3 : decode cJ2_getChar_3b067 3 = .ok (.ifCond .ne 25, 3) := by decide +kernel
theorem dJ2_getChar_3b067_6 : decode cJ2_getChar_3b067 6 = .ok (.iload_n 1, 1) := by decide +kernel
theorem dJ2_getChar_3b067_7 : decode cJ2_getChar_3b067 7 = .ok (.ifCond .lt 11, 3) := by decide +kernel
theorem dJ2_getChar_3b067_10 : decode cJ2_getChar_3b067 10 = .ok (.iload_n 1, 1) := by decide +kernel
theorem dJ2_getChar_3b067_11 : decode cJ2_getChar_3b067 11 = .ok (.aload_n 0, 1) := by decide +kernel
theorem dJ2_getChar_3b067_12 : decode cJ2_getChar_3b067 12 = .ok (.invokestatic 48, 3) := by decide +kernel
theorem dJ2_getChar_3b067_15 : decode cJ2_getChar_3b067 15 = .ok (.if_icmp .lt 13, 3) := by decide +kernel
theorem dJ2_getChar_3b067_18 : decode cJ2_getChar_3b067 18 = .ok (.new 52, 3) := by decide +kernel
theorem dJ2_getChar_3b067_21 : decode cJ2_getChar_3b067 21 = .ok (.dup, 1) := by decide +kernel
theorem dJ2_getChar_3b067_22 : decode cJ2_getChar_3b067 22 = .ok (.ldc 54, 2) := by decide +kernel
theorem dJ2_getChar_3b067_24 : decode cJ2_getChar_3b067 24 = .ok (.invokespecial 56, 3) := by decide +kernel
theorem dJ2_getChar_3b067_27 : decode cJ2_getChar_3b067 27 = .ok (.athrow, 1) := by decide +kernel
theorem dJ2_getChar_3b067_28 : decode cJ2_getChar_3b067 28 = .ok (.iload_n 1, 1) := by decide +kernel
theorem dJ2_getChar_3b067_29 : decode cJ2_getChar_3b067 29 = .ok (.iconst 1, 1) := by decide +kernel
theorem dJ2_getChar_3b067_30 : decode cJ2_getChar_3b067 30 = .ok (.ishl, 1) := by decide +kernel
theorem dJ2_getChar_3b067_31 : decode cJ2_getChar_3b067 31 = .ok (.istore_n 1, 1) := by decide +kernel
theorem dJ2_getChar_3b067_32 : decode cJ2_getChar_3b067 32 = .ok (.aload_n 0, 1) := by decide +kernel
theorem dJ2_getChar_3b067_33 : decode cJ2_getChar_3b067 33 = .ok (.iload_n 1, 1) := by decide +kernel
theorem dJ2_getChar_3b067_34 : decode cJ2_getChar_3b067 34 = .ok (.iinc 1 1, 3) := by decide +kernel
theorem dJ2_getChar_3b067_37 : decode cJ2_getChar_3b067 37 = .ok (.baload, 1) := by decide +kernel
theorem dJ2_getChar_3b067_38 : decode cJ2_getChar_3b067 38 = .ok (.sipush 255, 3) := by decide +kernel
theorem dJ2_getChar_3b067_41 : decode cJ2_getChar_3b067 41 = .ok (.iand, 1) := by decide +kernel
theorem dJ2_getChar_3b067_42 : decode cJ2_getChar_3b067 42 = .ok (.getstatic 59, 3) := by decide +kernel
theorem dJ2_getChar_3b067_45 : decode cJ2_getChar_3b067 45 = .ok (.ishl, 1) := by decide +kernel
theorem dJ2_getChar_3b067_46 : decode cJ2_getChar_3b067 46 = .ok (.aload_n 0, 1) := by decide +kernel
theorem dJ2_getChar_3b067_47 : decode cJ2_getChar_3b067 47 = .ok (.iload_n 1, 1) := by decide +kernel
theorem dJ2_getChar_3b067_48 : decode cJ2_getChar_3b067 48 = .ok (.baload, 1) := by decide +kernel
theorem dJ2_getChar_3b067_49 : decode cJ2_getChar_3b067 49 = .ok (.sipush 255, 3) := by decide +kernel
theorem dJ2_getChar_3b067_52 : decode cJ2_getChar_3b067 52 = .ok (.iand, 1) := by decide +kernel
theorem dJ2_getChar_3b067_53 : decode cJ2_getChar_3b067 53 = .ok (.getstatic 63, 3) := by decide +kernel
theorem dJ2_getChar_3b067_56 : decode cJ2_getChar_3b067 56 = .ok (.ishl, 1) := by decide +kernel
theorem dJ2_getChar_3b067_57 : decode cJ2_getChar_3b067 57 = .ok (.ior, 1) := by decide +kernel
theorem dJ2_getChar_3b067_58 : decode cJ2_getChar_3b067 58 = .ok (.i2c, 1) := by decide +kernel
theorem dJ2_getChar_3b067_59 : decode cJ2_getChar_3b067 59 = .ok (.ireturn, 1) := by decide +kernel
theorem dJ2_length_9d52b_0 : decode cJ2_length_9d52b 0 = .ok (.aload_n 0, 1) := by decide +kernel
theorem dJ2_length_9d52b_1 : decode cJ2_length_9d52b 1 = .ok (.arraylength, 1) := by decide +kernel
theorem dJ2_length_9d52b_2 : decode cJ2_length_9d52b 2 = .ok (.iconst 1, 1) := by decide +kernel
theorem dJ2_length_9d52b_3 : decode cJ2_length_9d52b 3 = .ok (.ishr, 1) := by decide +kernel
theorem dJ2_length_9d52b_4 : decode cJ2_length_9d52b 4 = .ok (.ireturn, 1) := by decide +kernel
theorem dJ2_putCharSB_b72d1_0 : decode cJ2_putCharSB_b72d1 0 = .ok (.iload_n 1, 1) := by decide +kernel
theorem dJ2_putCharSB_b72d1_1 : decode cJ2_putCharSB_b72d1 1 = .ok (.aload_n 0, 1) := by decide +kernel
theorem dJ2_putCharSB_b72d1_2 : decode cJ2_putCharSB_b72d1 2 = .ok (.invokestatic 67, 3) := by decide +kernel
theorem dJ2_putCharSB_b72d1_5 : decode cJ2_putCharSB_b72d1 5 = .ok (.aload_n 0, 1) := by decide +kernel
theorem dJ2_putCharSB_b72d1_6 : decode cJ2_putCharSB_b72d1 6 = .ok (.iload_n 1, 1) := by decide +kernel
theorem dJ2_putCharSB_b72d1_7 : decode cJ2_putCharSB_b72d1 7 = .ok (.iload_n 2, 1) := by decide +kernel
theorem dJ2_putCharSB_b72d1_8 : decode cJ2_putCharSB_b72d1 8 = .ok (.invokestatic 111, 3) := by decide +kernel
theorem dJ2_putCharSB_b72d1_11 : decode cJ2_putCharSB_b72d1 11 = .ok (.return_, 1) := by decide +kernel
theorem dJ2_inflate_0e8fd_0 : decode cJ2_inflate_0e8fd 0 = .ok (.iload_n 3, 1) := by decide +kernel
theorem dJ2_inflate_0e8fd_1 : decode cJ2_inflate_0e8fd 1 = .ok (.iload 4, 2) := by decide +kernel
theorem dJ2_inflate_0e8fd_3 : decode cJ2_inflate_0e8fd 3 = .ok (.aload_n 2, 1) := by decide +kernel
theorem dJ2_inflate_0e8fd_4 : decode cJ2_inflate_0e8fd 4 = .ok (.invokestatic 173, 3) := by decide +kernel
theorem dJ2_inflate_0e8fd_7 : decode cJ2_inflate_0e8fd 7 = .ok (.iconst 0, 1) := by decide +kernel
theorem dJ2_inflate_0e8fd_8 : decode cJ2_inflate_0e8fd 8 = .ok (.istore 5, 2) := by decide +kernel
theorem dJ2_inflate_0e8fd_10 : decode cJ2_inflate_0e8fd 10 = .ok (.iload 5, 2) := by decide +kernel
theorem dJ2_inflate_0e8fd_12 : decode cJ2_inflate_0e8fd 12 = .ok (.iload 4, 2) := by decide +kernel
theorem dJ2_inflate_0e8fd_14 : decode cJ2_inflate_0e8fd 14 = .ok (.if_icmp .ge 27, 3) := by decide +kernel
theorem dJ2_inflate_0e8fd_17 : decode cJ2_inflate_0e8fd 17 = .ok (.aload_n 2, 1) := by decide +kernel
theorem dJ2_inflate_0e8fd_18 : decode cJ2_inflate_0e8fd 18 = .ok (.iload_n 3, 1) := by decide +kernel
theorem dJ2_inflate_0e8fd_19 : decode cJ2_inflate_0e8fd 19 = .ok (.iinc 3 1, 3) := by decide +kernel
theorem dJ2_inflate_0e8fd_22 : decode cJ2_inflate_0e8fd 22 = .ok (.aload_n 0, 1) := by decide +kernel
theorem dJ2_inflate_0e8fd_23 : decode cJ2_inflate_0e8fd 23 = .ok (.iload_n 1, 1) := by decide +kernel
theorem dJ2_inflate_0e8fd_24 : decode cJ2_inflate_0e8fd 24 = .ok (.iinc 1 1, 3) := by decide +kernel
theorem dJ2_inflate_0e8fd_27 : decode cJ2_inflate_0e8fd 27 = .ok (.baload, 1) := by decide +kernel
theorem dJ2_inflate_0e8fd_28 : decode cJ2_inflate_0e8fd 28 = .ok (.sipush 255, 3) := by decide +kernel
theorem dJ2_inflate_0e8fd_31 : decode cJ2_inflate_0e8fd 31 = .ok (.iand, 1) := by decide +kernel
theorem dJ2_inflate_0e8fd_32 : decode cJ2_inflate_0e8fd 32 = .ok (.invokestatic 111, 3) := by decide +kernel
theorem dJ2_inflate_0e8fd_35 : decode cJ2_inflate_0e8fd 35 = .ok (.iinc 5 1, 3) := by decide +kernel
theorem dJ2_inflate_0e8fd_38 : decode cJ2_inflate_0e8fd 38 = .ok (.goto (-28), 3) := by decide +kernel
theorem dJ2_inflate_0e8fd_41 : decode cJ2_inflate_0e8fd 41 = .ok (.return_, 1) := by decide +kernel
theorem dJ2_checkIndex_2214a_0 : decode cJ2_checkIndex_2214a 0 = .ok (.iload_n 0, 1) := by decide +kernel
theorem dJ2_checkIndex_2214a_1 : decode cJ2_checkIndex_2214a 1 = .ok (.aload_n 1, 1) := by decide +kernel
theorem dJ2_checkIndex_2214a_2 : decode cJ2_checkIndex_2214a 2 = .ok (.invokestatic 48, 3) := by decide +kernel
theorem dJ2_checkIndex_2214a_5 : decode cJ2_checkIndex_2214a 5 = .ok (.invokestatic 414, 3) := by decide +kernel
theorem dJ2_checkIndex_2214a_8 : decode cJ2_checkIndex_2214a 8 = .ok (.return_, 1) := by decide +kernel
theorem dJ2_checkBoundsOffCount_d044e_0 : decode cJ2_checkBoundsOffCount_d044e 0 = .ok (.iload_n 0, 1) := by decide +kernel
theorem dJ2_checkBoundsOffCount_d044e_1 : decode cJ2_checkBoundsOffCount_d044e 1 = .ok (.iload_n 1, 1) := by decide +kernel
theorem dJ2_checkBoundsOffCount_d044e_2 : decode cJ2_checkBoundsOffCount_d044e 2 = .ok (.aload_n 2, 1) := by decide +kernel
theorem dJ2_checkBoundsOffCount_d044e_3 : decode cJ2_checkBoundsOffCount_d044e 3 = .ok (.invokestatic 48, 3) := by decide +kernel
theorem dJ2_checkBoundsOffCount_d044e_6 : decode cJ2_checkBoundsOffCount_d044e 6 = .ok (.invokestatic 419, 3) := by decide +kernel
theorem dJ2_checkBoundsOffCount_d044e_9 : decode cJ2_checkBoundsOffCount_d044e 9 = .ok (.pop, 1) := by decide +kernel
theorem dJ2_checkBoundsOffCount_d044e_10 : decode cJ2_checkBoundsOffCount_d044e 10 = .ok (.return_, 1) := by decide +kernel
theorem dJxa1e45_init_da8c8_0 : decode cJxa1e45_init_da8c8 0 = .ok (.aload_n 0, 1) := by decide +kernel
theorem dJxa1e45_init_da8c8_1 : decode cJxa1e45_init_da8c8 1 = .ok (.invokespecial 1, 3) := by decide +kernel
theorem dJxa1e45_init_da8c8_4 : decode cJxa1e45_init_da8c8 4 = .ok (.return_, 1) := by decide +kernel
theorem dJxc12de_init_da8c8_0 : decode cJxc12de_init_da8c8 0 = .ok (.aload_n 0, 1) := by decide +kernel
theorem dJxc12de_init_da8c8_1 : decode cJxc12de_init_da8c8 1 = .ok (.invokespecial 1, 3) := by decide +kernel
theorem dJxc12de_init_da8c8_4 : decode cJxc12de_init_da8c8 4 = .ok (.aload_n 0, 1) := by decide +kernel
theorem dJxc12de_init_da8c8_5 : decode cJxc12de_init_da8c8 5 = .ok (.iconst 0, 1) := by decide +kernel
theorem dJxc12de_init_da8c8_6 : decode cJxc12de_init_da8c8 6 = .ok (.putfield 7, 3) := by decide +kernel
theorem dJxc12de_init_da8c8_9 : decode cJxc12de_init_da8c8 9 = .ok (.return_, 1) := by decide +kernel
theorem dJx4a65c_init_da8c8_0 : decode cJx4a65c_init_da8c8 0 = .ok (.aload_n 0, 1) := by decide +kernel
theorem dJx4a65c_init_da8c8_1 : decode cJx4a65c_init_da8c8 1 = .ok (.invokespecial 1, 3) := by decide +kernel
theorem dJx4a65c_init_da8c8_4 : decode cJx4a65c_init_da8c8 4 = .ok (.aload_n 0, 1) := by decide +kernel
theorem dJx4a65c_init_da8c8_5 : decode cJx4a65c_init_da8c8 5 = .ok (.getstatic 39, 3) := by decide +kernel
theorem dJx4a65c_init_da8c8_8 : decode cJx4a65c_init_da8c8 8 = .ok (.putfield 9, 3) := by decide +kernel
theorem dJx4a65c_init_da8c8_11 : decode cJx4a65c_init_da8c8 11 = .ok (.return_, 1) := by decide +kernel
theorem dJx4a65c_grow_92f84_0 : decode cJx4a65c_grow_92f84 0 = .ok (.aload_n 0, 1) := by decide +kernel
theorem dJx4a65c_grow_92f84_1 : decode cJx4a65c_grow_92f84 1 = .ok (.getfield 9, 3) := by decide +kernel
theorem dJx4a65c_grow_92f84_4 : decode cJx4a65c_grow_92f84 4 = .ok (.arraylength, 1) := by decide +kernel
theorem dJx4a65c_grow_92f84_5 : decode cJx4a65c_grow_92f84 5 = .ok (.istore_n 2, 1) := by decide +kernel
theorem dJx4a65c_grow_92f84_6 : decode cJx4a65c_grow_92f84 6 = .ok (.iload_n 2, 1) := by decide +kernel
theorem dJx4a65c_grow_92f84_7 : decode cJx4a65c_grow_92f84 7 = .ok (.ifCond .gt 13, 3) := by decide +kernel
theorem dJx4a65c_grow_92f84_10 : decode cJx4a65c_grow_92f84 10 = .ok (.aload_n 0, 1) := by decide +kernel
theorem dJx4a65c_grow_92f84_11 : decode cJx4a65c_grow_92f84 11 = .ok (.getfield 9, 3) := by decide +kernel
theorem dJx4a65c_grow_92f84_14 : decode cJx4a65c_grow_92f84 14 = .ok (.getstatic 39, 3) := by decide +kernel
theorem dJx4a65c_grow_92f84_17 : decode cJx4a65c_grow_92f84 17 = .ok (.if_acmp .eq 28, 3) := by decide +kernel
theorem dJx4a65c_grow_92f84_20 : decode cJx4a65c_grow_92f84 20 = .ok (.iload_n 2, 1) := by decide +kernel
theorem dJx4a65c_grow_92f84_21 : decode cJx4a65c_grow_92f84 21 = .ok (.iload_n 1, 1) := by decide +kernel
theorem dJx4a65c_grow_92f84_22 : decode cJx4a65c_grow_92f84 22 = .ok (.iload_n 2, 1) := by decide +kernel
theorem dJx4a65c_grow_92f84_23 : decode cJx4a65c_grow_92f84 23 = .ok (.isub, 1) := by decide +kernel
theorem dJx4a65c_grow_92f84_24 : decode cJx4a65c_grow_92f84 24 = .ok (.iload_n 2, 1) := by decide +kernel
theorem dJx4a65c_grow_92f84_25 : decode cJx4a65c_grow_92f84 25 = .ok (.iconst 1, 1) := by decide +kernel
theorem dJx4a65c_grow_92f84_26 : decode cJx4a65c_grow_92f84 26 = .ok (.ishr, 1) := by decide +kernel
theorem dJx4a65c_grow_92f84_27 : decode cJx4a65c_grow_92f84 27 = .ok (.invokestatic 73, 3) := by decide +kernel
theorem dJx4a65c_grow_92f84_30 : decode cJx4a65c_grow_92f84 30 = .ok (.istore_n 3, 1) := by decide +kernel
theorem dJx4a65c_grow_92f84_31 : decode cJx4a65c_grow_92f84 31 = .ok (.aload_n 0, 1) := by decide +kernel
theorem dJx4a65c_grow_92f84_32 : decode cJx4a65c_grow_92f84 32 = .ok (.aload_n 0, 1) := by decide +kernel
theorem dJx4a65c_grow_92f84_33 : decode cJx4a65c_grow_92f84 33 = .ok (.getfield 9, 3) := by decide +kernel
theorem dJx4a65c_grow_92f84_36 : decode cJx4a65c_grow_92f84 36 = .ok (.iload_n 3, 1) := by decide +kernel
theorem dJx4a65c_grow_92f84_37 : decode cJx4a65c_grow_92f84 37 = .ok (.invokestatic 66, 3) := by decide +kernel
theorem dJx4a65c_grow_92f84_40 : decode cJx4a65c_grow_92f84 40 = .ok (.dup_x1, 1) := by decide +kernel
theorem dJx4a65c_grow_92f84_41 : decode cJx4a65c_grow_92f84 41 = .ok (.putfield 9, 3) := by decide +kernel
theorem dJx4a65c_grow_92f84_44 : decode cJx4a65c_grow_92f84 44 = .ok (.areturn, 1) := by decide +kernel
theorem dJx4a65c_grow_92f84_45 : decode cJx4a65c_grow_92f84 45 = .ok (.aload_n 0, 1) := by decide +kernel
theorem dJx4a65c_grow_92f84_46 : decode cJx4a65c_grow_92f84 46 = .ok (.bipush 10, 2) := by decide +kernel
theorem dJx4a65c_grow_92f84_48 : decode cJx4a65c_grow_92f84 48 = .ok (.iload_n 1, 1) := by decide +kernel
theorem dJx4a65c_grow_92f84_49 : decode cJx4a65c_grow_92f84 49 = .ok (.invokestatic 79, 3) := by decide +kernel
theorem dJx4a65c_grow_92f84_52 : decode cJx4a65c_grow_92f84 52 = .ok (.anewarray 7, 3) := by decide +kernel
theorem dJx4a65c_grow_92f84_55 : decode cJx4a65c_grow_92f84 55 = .ok (.dup_x1, 1) := by decide +kernel
theorem dJx4a65c_grow_92f84_56 : decode cJx4a65c_grow_92f84 56 = .ok (.putfield 9, 3) := by decide +kernel
theorem dJx4a65c_grow_92f84_59 : decode cJx4a65c_grow_92f84 59 = .ok (.areturn, 1) := by decide +kernel
theorem dJx4a65c_grow_d5877_0 : decode cJx4a65c_grow_d5877 0 = .ok (.aload_n 0, 1) := by decide +kernel
theorem dJx4a65c_grow_d5877_1 : decode cJx4a65c_grow_d5877 1 = .ok (.aload_n 0, 1) := by decide +kernel
theorem dJx4a65c_grow_d5877_2 : decode cJx4a65c_grow_d5877 2 = .ok (.getfield 48, 3) := by decide +kernel
theorem dJx4a65c_grow_d5877_5 : decode cJx4a65c_grow_d5877 5 = .ok (.iconst 1, 1) := by decide +kernel
theorem dJx4a65c_grow_d5877_6 : decode cJx4a65c_grow_d5877 6 = .ok (.iadd, 1) := by decide +kernel
theorem dJx4a65c_grow_d5877_7 : decode cJx4a65c_grow_d5877 7 = .ok (.invokevirtual 69, 3) := by decide +kernel
theorem dJx4a65c_grow_d5877_10 : decode cJx4a65c_grow_d5877 10 = .ok (.areturn, 1) := by decide +kernel
theorem dJx4a65c_size_8abf5_0 : decode cJx4a65c_size_8abf5 0 = .ok (.aload_n 0, 1) := by decide +kernel
theorem dJx4a65c_size_8abf5_1 : decode cJx4a65c_size_8abf5 1 = .ok (.getfield 48, 3) := by decide +kernel
theorem dJx4a65c_size_8abf5_4 : decode cJx4a65c_size_8abf5 4 = .ok (.ireturn, 1) := by decide +kernel
theorem dJx4a65c_elementData_915e3_0 : decode cJx4a65c_elementData_915e3 0 = .ok (.aload_n 0, 1) := by decide +kernel
theorem dJx4a65c_elementData_915e3_1 : decode cJx4a65c_elementData_915e3 1 = .ok (.getfield 9, 3) := by decide +kernel
theorem dJx4a65c_elementData_915e3_4 : decode cJx4a65c_elementData_915e3 4 = .ok (.iload_n 1, 1) := by decide +kernel
theorem dJx4a65c_elementData_915e3_5 : decode cJx4a65c_elementData_915e3 5 = .ok (.aaload, 1) := by decide +kernel
theorem dJx4a65c_elementData_915e3_6 : decode cJx4a65c_elementData_915e3 6 = .ok (.areturn, 1) := by decide +kernel
theorem dJx4a65c_get_915e3_0 : decode cJx4a65c_get_915e3 0 = .ok (.iload_n 1, 1) := by decide +kernel
theorem dJx4a65c_get_915e3_1 : decode cJx4a65c_get_915e3 1 = .ok (.aload_n 0, 1) := by decide +kernel
theorem dJx4a65c_get_915e3_2 : decode cJx4a65c_get_915e3 2 = .ok (.getfield 48, 3) := by decide +kernel
theorem dJx4a65c_get_915e3_5 : decode cJx4a65c_get_915e3 5 = .ok (.invokestatic 118, 3) := by decide +kernel
theorem dJx4a65c_get_915e3_8 : decode cJx4a65c_get_915e3 8 = .ok (.pop, 1) := by decide +kernel
theorem dJx4a65c_get_915e3_9 : decode cJx4a65c_get_915e3 9 = .ok (.aload_n 0, 1) := by decide +kernel
theorem dJx4a65c_get_915e3_10 : decode cJx4a65c_get_915e3 10 = .ok (.iload_n 1, 1) := by decide +kernel
theorem dJx4a65c_get_915e3_11 : decode cJx4a65c_get_915e3 11 = .ok (.invokevirtual 123, 3) := by decide +kernel
theorem dJx4a65c_get_915e3_14 : decode cJx4a65c_get_915e3 14 = .ok (.areturn, 1) := by decide +kernel
theorem dJx4a65c_add_72be8_0 : decode cJx4a65c_add_72be8 0 = .ok (.iload_n 3, 1) := by decide +kernel
theorem dJx4a65c_add_72be8_1 : decode cJx4a65c_add_72be8 1 = .ok (.aload_n 2, 1) := by decide +kernel
theorem dJx4a65c_add_72be8_2 : decode cJx4a65c_add_72be8 2 = .ok (.arraylength, 1) := by decide +kernel
theorem dJx4a65c_add_72be8_3 : decode cJx4a65c_add_72be8 3 = .ok (.if_icmp .ne 8, 3) := by decide +kernel
theorem dJx4a65c_add_72be8_6 : decode cJx4a65c_add_72be8 6 = .ok (.aload_n 0, 1) := by decide +kernel
theorem dJx4a65c_add_72be8_7 : decode cJx4a65c_add_72be8 7 = .ok (.invokevirtual 129, 3) := by decide +kernel
theorem dJx4a65c_add_72be8_10 : decode cJx4a65c_add_72be8 10 = .ok (.astore_n 2, 1) := by decide +kernel
theorem dJx4a65c_add_72be8_11 : decode cJx4a65c_add_72be8 11 = .ok (.aload_n 2, 1) := by decide +kernel
theorem dJx4a65c_add_72be8_12 : decode cJx4a65c_add_72be8 12 = .ok (.iload_n 3, 1) := by decide +kernel
theorem dJx4a65c_add_72be8_13 : decode cJx4a65c_add_72be8 13 = .ok (.aload_n 1, 1) := by decide +kernel
theorem dJx4a65c_add_72be8_14 : decode cJx4a65c_add_72be8 14 = .ok (.aastore, 1) := by decide +kernel
theorem dJx4a65c_add_72be8_15 : decode cJx4a65c_add_72be8 15 = .ok (.aload_n 0, 1) := by decide +kernel
theorem dJx4a65c_add_72be8_16 : decode cJx4a65c_add_72be8 16 = .ok (.iload_n 3, 1) := by decide +kernel
theorem dJx4a65c_add_72be8_17 : decode cJx4a65c_add_72be8 17 = .ok (.iconst 1, 1) := by decide +kernel
theorem dJx4a65c_add_72be8_18 : decode cJx4a65c_add_72be8 18 = .ok (.iadd, 1) := by decide +kernel
theorem dJx4a65c_add_72be8_19 : decode cJx4a65c_add_72be8 19 = .ok (.putfield 48, 3) := by decide +kernel
theorem dJx4a65c_add_72be8_22 : decode cJx4a65c_add_72be8 22 = .ok (.return_, 1) := by decide +kernel
theorem dJx4a65c_add_9ea2d_0 : decode cJx4a65c_add_9ea2d 0 = .ok (.aload_n 0, 1) := by decide +kernel
theorem dJx4a65c_add_9ea2d_1 : decode cJx4a65c_add_9ea2d 1 = .ok (.dup, 1) := by decide +kernel
theorem dJx4a65c_add_9ea2d_2 : decode cJx4a65c_add_9ea2d 2 = .ok (.getfield 63, 3) := by decide +kernel
theorem dJx4a65c_add_9ea2d_5 : decode cJx4a65c_add_9ea2d 5 = .ok (.iconst 1, 1) := by decide +kernel
theorem dJx4a65c_add_9ea2d_6 : decode cJx4a65c_add_9ea2d 6 = .ok (.iadd, 1) := by decide +kernel
theorem dJx4a65c_add_9ea2d_7 : decode cJx4a65c_add_9ea2d 7 = .ok (.putfield 63, 3) := by decide +kernel
theorem dJx4a65c_add_9ea2d_10 : decode cJx4a65c_add_9ea2d 10 = .ok (.aload_n 0, 1) := by decide +kernel
theorem dJx4a65c_add_9ea2d_11 : decode cJx4a65c_add_9ea2d 11 = .ok (.aload_n 1, 1) := by decide +kernel
theorem dJx4a65c_add_9ea2d_12 : decode cJx4a65c_add_9ea2d 12 = .ok (.aload_n 0, 1) := by decide +kernel
theorem dJx4a65c_add_9ea2d_13 : decode cJx4a65c_add_9ea2d 13 = .ok (.getfield 9, 3) := by decide +kernel
theorem dJx4a65c_add_9ea2d_16 : decode cJx4a65c_add_9ea2d 16 = .ok (.aload_n 0, 1) := by decide +kernel
theorem dJx4a65c_add_9ea2d_17 : decode cJx4a65c_add_9ea2d 17 = .ok (.getfield 48, 3) := by decide +kernel
theorem dJx4a65c_add_9ea2d_20 : decode cJx4a65c_add_9ea2d 20 = .ok (.invokevirtual 131, 3) := by decide +kernel
theorem dJx4a65c_add_9ea2d_23 : decode cJx4a65c_add_9ea2d 23 = .ok (.iconst 1, 1) := by decide +kernel
theorem dJx4a65c_add_9ea2d_24 : decode cJx4a65c_add_9ea2d 24 = .ok (.ireturn, 1) := by decide +kernel
theorem dJ7_copyOf_1904c_0 : decode cJ7_copyOf_1904c 0 = .ok (.aload_n 0, 1) := by decide +kernel
theorem dJ7_copyOf_1904c_1 : decode cJ7_copyOf_1904c 1 = .ok (.iload_n 1, 1) := by decide +kernel
theorem dJ7_copyOf_1904c_2 : decode cJ7_copyOf_1904c 2 = .ok (.aload_n 0, 1) := by decide +kernel
theorem dJ7_copyOf_1904c_3 : decode cJ7_copyOf_1904c 3 = .ok (.invokevirtual 86, 3) := by decide +kernel
theorem dJ7_copyOf_1904c_6 : decode cJ7_copyOf_1904c 6 = .ok (.invokestatic 300, 3) := by decide +kernel
theorem dJ7_copyOf_1904c_9 : decode cJ7_copyOf_1904c 9 = .ok (.areturn, 1) := by decide +kernel
theorem dJ7_copyOf_6403c_0 : decode cJ7_copyOf_6403c 0 = .ok (.aload_n 2, 1) := by decide +kernel
theorem dJ7_copyOf_6403c_1 : decode cJ7_copyOf_6403c 1 = .ok (.ldc 110, 2) := by decide +kernel
theorem dJ7_copyOf_6403c_3 : decode cJ7_copyOf_6403c 3 = .ok (.if_acmp .ne 10, 3) := by decide +kernel
theorem dJ7_copyOf_6403c_6 : decode cJ7_copyOf_6403c 6 = .ok (.iload_n 1, 1) := by decide +kernel
theorem dJ7_copyOf_6403c_7 : decode cJ7_copyOf_6403c 7 = .ok (.anewarray 2, 3) := by decide +kernel
theorem dJ7_copyOf_6403c_10 : decode cJ7_copyOf_6403c 10 = .ok (.goto 14, 3) := by decide +kernel
theorem dJ7_copyOf_6403c_13 : decode cJ7_copyOf_6403c 13 = .ok (.aload_n 2, 1) := by decide +kernel
theorem dJ7_copyOf_6403c_14 : decode cJ7_copyOf_6403c 14 = .ok (.invokevirtual 90, 3) := by decide +kernel
theorem dJ7_copyOf_6403c_17 : decode cJ7_copyOf_6403c 17 = .ok (.iload_n 1, 1) := by decide +kernel
theorem dJ7_copyOf_6403c_18 : decode cJ7_copyOf_6403c 18 = .ok (.invokestatic 95, 3) := by decide +kernel
theorem dJ7_copyOf_6403c_21 : decode cJ7_copyOf_6403c 21 = .ok (.checkcast 110, 3) := by decide +kernel
theorem dJ7_copyOf_6403c_24 : decode cJ7_copyOf_6403c 24 = .ok (.astore_n 3, 1) := by decide +kernel
theorem dJ7_copyOf_6403c_25 : decode cJ7_copyOf_6403c 25 = .ok (.aload_n 0, 1) := by decide +kernel
theorem dJ7_copyOf_6403c_26 : decode cJ7_copyOf_6403c 26 = .ok (.iconst 0, 1) := by decide +kernel
theorem dJ7_copyOf_6403c_27 : decode cJ7_copyOf_6403c 27 = .ok (.aload_n 3, 1) := by decide +kernel
theorem dJ7_copyOf_6403c_28 : decode cJ7_copyOf_6403c 28 = .ok (.iconst 0, 1) := by decide +kernel
theorem dJ7_copyOf_6403c_29 : decode cJ7_copyOf_6403c 29 = .ok (.aload_n 0, 1) := by decide +kernel
theorem dJ7_copyOf_6403c_30 : decode cJ7_copyOf_6403c 30 = .ok (.arraylength, 1) := by decide +kernel
theorem dJ7_copyOf_6403c_31 : decode cJ7_copyOf_6403c 31 = .ok (.iload_n 1, 1) := by decide +kernel
theorem dJ7_copyOf_6403c_32 : decode cJ7_copyOf_6403c 32 = .ok (.invokestatic 304, 3) := by decide +kernel
theorem dJ7_copyOf_6403c_35 : decode cJ7_copyOf_6403c 35 = .ok (.invokestatic 150, 3) := by decide +kernel
theorem dJ7_copyOf_6403c_38 : decode cJ7_copyOf_6403c 38 = .ok (.aload_n 3, 1) := by decide +kernel
theorem dJ7_copyOf_6403c_39 : decode cJ7_copyOf_6403c 39 = .ok (.areturn, 1) := by decide +kernel
theorem dJ7_copyOf_9075b_0 : decode cJ7_copyOf_9075b 0 = .ok (.iload_n 1, 1) := by decide +kernel
theorem dJ7_copyOf_9075b_1 : decode cJ7_copyOf_9075b 1 = .ok (.aload_n 0, 1) := by decide +kernel
theorem dJ7_copyOf_9075b_2 : decode cJ7_copyOf_9075b 2 = .ok (.arraylength, 1) := by decide +kernel
theorem dJ7_copyOf_9075b_3 : decode cJ7_copyOf_9075b 3 = .ok (.if_icmp .ne 11, 3) := by decide +kernel
theorem dJ7_copyOf_9075b_6 : decode cJ7_copyOf_9075b 6 = .ok (.aload_n 0, 1) := by decide +kernel
theorem dJ7_copyOf_9075b_7 : decode cJ7_copyOf_9075b 7 = .ok (.invokevirtual 310, 3) := by decide +kernel
theorem dJ7_copyOf_9075b_10 : decode cJ7_copyOf_9075b 10 = .ok (.checkcast 311, 3) := by decide +kernel
theorem dJ7_copyOf_9075b_13 : decode cJ7_copyOf_9075b 13 = .ok (.areturn, 1) := by decide +kernel
theorem dJ7_copyOf_9075b_14 : decode cJ7_copyOf_9075b 14 = .ok (.iload_n 1, 1) := by decide +kernel
theorem dJ7_copyOf_9075b_15 : decode cJ7_copyOf_9075b 15 = .ok (.newarray .byte, 2) := by decide +kernel
theorem dJ7_copyOf_9075b_17 : decode cJ7_copyOf_9075b 17 = .ok (.astore_n 2, 1) := by decide +kernel
theorem dJ7_copyOf_9075b_18 : decode cJ7_copyOf_9075b 18 = .ok (.aload_n 0, 1) := by decide +kernel
theorem dJ7_copyOf_9075b_19 : decode cJ7_copyOf_9075b 19 = .ok (.iconst 0, 1) := by decide +kernel
theorem dJ7_copyOf_9075b_20 : decode cJ7_copyOf_9075b 20 = .ok (.aload_n 2, 1) := by decide +kernel
theorem dJ7_copyOf_9075b_21 : decode cJ7_copyOf_9075b 21 = .ok (.iconst 0, 1) := by decide +kernel
theorem dJ7_copyOf_9075b_22 : decode cJ7_copyOf_9075b 22 = .ok (.aload_n 0, 1) := by decide +kernel
theorem dJ7_copyOf_9075b_23 : decode cJ7_copyOf_9075b 23 = .ok (.arraylength, 1) := by decide +kernel
theorem dJ7_copyOf_9075b_24 : decode cJ7_copyOf_9075b 24 = .ok (.iload_n 1, 1) := by decide +kernel
theorem dJ7_copyOf_9075b_25 : decode cJ7_copyOf_9075b 25 = .ok (.invokestatic 304, 3) := by decide +kernel
theorem dJ7_copyOf_9075b_28 : decode cJ7_copyOf_9075b 28 = .ok (.invokestatic 150, 3) := by decide +kernel
theorem dJ7_copyOf_9075b_31 : decode cJ7_copyOf_9075b 31 = .ok (.aload_n 2, 1) := by decide +kernel
theorem dJ7_copyOf_9075b_32 : decode cJ7_copyOf_9075b 32 = .ok (.areturn, 1) := by decide +kernel
theorem dJ15_checkIndex_7cf53_0 : decode cJ15_checkIndex_7cf53 0 = .ok (.iload_n 0, 1) := by decide +kernel
theorem dJ15_checkIndex_7cf53_1 : decode cJ15_checkIndex_7cf53 1 = .ok (.iload_n 1, 1) := by decide +kernel
theorem dJ15_checkIndex_7cf53_2 : decode cJ15_checkIndex_7cf53 2 = .ok (.aconst_null, 1) := by decide +kernel
theorem dJ15_checkIndex_7cf53_3 : decode cJ15_checkIndex_7cf53 3 = .ok (.invokestatic 105, 3) := by decide +kernel
theorem dJ15_checkIndex_7cf53_6 : decode cJ15_checkIndex_7cf53 6 = .ok (.ireturn, 1) := by decide +kernel
theorem dJ8_newLength_cabcc_0 : decode cJ8_newLength_cabcc 0 = .ok (.iload_n 0, 1) := by decide +kernel
theorem dJ8_newLength_cabcc_1 : decode cJ8_newLength_cabcc 1 = .ok (.iload_n 1, 1) := by decide +kernel
theorem dJ8_newLength_cabcc_2 : decode cJ8_newLength_cabcc 2 = .ok (.iload_n 2, 1) := by decide +kernel
theorem dJ8_newLength_cabcc_3 : decode cJ8_newLength_cabcc 3 = .ok (.invokestatic 194, 3) := by decide +kernel
theorem dJ8_newLength_cabcc_6 : decode cJ8_newLength_cabcc 6 = .ok (.iadd, 1) := by decide +kernel
theorem dJ8_newLength_cabcc_7 : decode cJ8_newLength_cabcc 7 = .ok (.istore_n 3, 1) := by decide +kernel
theorem dJ8_newLength_cabcc_8 : decode cJ8_newLength_cabcc 8 = .ok (.iconst 0, 1) := by decide +kernel
theorem dJ8_newLength_cabcc_9 : decode cJ8_newLength_cabcc 9 = .ok (.iload_n 3, 1) := by decide +kernel
theorem dJ8_newLength_cabcc_10 : decode cJ8_newLength_cabcc 10 = .ok (.if_icmp .ge 11, 3) := by decide +kernel
theorem dJ8_newLength_cabcc_13 : decode cJ8_newLength_cabcc 13 = .ok (.iload_n 3, 1) := by decide +kernel
theorem dJ8_newLength_cabcc_14 : decode cJ8_newLength_cabcc 14 = .ok (.ldc 200, 2) := by decide +kernel
theorem dJ8_newLength_cabcc_16 : decode cJ8_newLength_cabcc 16 = .ok (.if_icmp .gt 5, 3) := by decide +kernel
theorem dJ8_newLength_cabcc_19 : decode cJ8_newLength_cabcc 19 = .ok (.iload_n 3, 1) := by decide +kernel
theorem dJ8_newLength_cabcc_20 : decode cJ8_newLength_cabcc 20 = .ok (.ireturn, 1) := by decide +kernel
theorem dJ8_newLength_cabcc_21 : decode cJ8_newLength_cabcc 21 = .ok (.iload_n 0, 1) := by decide +kernel
theorem dJ8_newLength_cabcc_22 : decode cJ8_newLength_cabcc 22 = .ok (.iload_n 1, 1) := by decide +kernel
theorem dJ8_newLength_cabcc_23 : decode cJ8_newLength_cabcc 23 = .ok (.invokestatic 201, 3) := by decide +kernel
theorem dJ8_newLength_cabcc_26 : decode cJ8_newLength_cabcc 26 = .ok (.ireturn, 1) := by decide +kernel
theorem dJ8_hugeLength_7cf53_0 : decode cJ8_hugeLength_7cf53 0 = .ok (.iload_n 0, 1) := by decide +kernel
theorem dJ8_hugeLength_7cf53_1 : decode cJ8_hugeLength_7cf53 1 = .ok (.iload_n 1, 1) := by decide +kernel
theorem dJ8_hugeLength_7cf53_2 : decode cJ8_hugeLength_7cf53 2 = .ok (.iadd, 1) := by decide +kernel
theorem dJ8_hugeLength_7cf53_3 : decode cJ8_hugeLength_7cf53 3 = .ok (.istore_n 2, 1) := by decide +kernel
theorem dJ8_hugeLength_7cf53_4 : decode cJ8_hugeLength_7cf53 4 = .ok (.iload_n 2, 1) := by decide +kernel
theorem dJ8_hugeLength_7cf53_5 : decode cJ8_hugeLength_7cf53 5 = .ok (.ifCond .ge 44, 3) := by decide +kernel
theorem dJ8_hugeLength_7cf53_8 : decode cJ8_hugeLength_7cf53 8 = .ok (.new 204, 3) := by decide +kernel
theorem dJ8_hugeLength_7cf53_11 : decode cJ8_hugeLength_7cf53 11 = .ok (.dup, 1) := by decide +kernel
theorem dJ8_hugeLength_7cf53_12 : decode cJ8_hugeLength_7cf53 12 = .ok (.new 89, 3) := by decide +kernel
theorem dJ8_hugeLength_7cf53_15 : decode cJ8_hugeLength_7cf53 15 = .ok (.dup, 1) := by decide +kernel
theorem dJ8_hugeLength_7cf53_16 : decode cJ8_hugeLength_7cf53 16 = .ok (.invokespecial 91, 3) := by decide +kernel
theorem dJ8_hugeLength_7cf53_19 : decode cJ8_hugeLength_7cf53 19 = .ok (.ldc 206, 2) := by decide +kernel
theorem dJ8_hugeLength_7cf53_21 : decode cJ8_hugeLength_7cf53 21 = .ok (.invokevirtual 94, 3) := by decide +kernel
theorem dJ8_hugeLength_7cf53_24 : decode cJ8_hugeLength_7cf53 24 = .ok (.iload_n 0, 1) := by decide +kernel
theorem dJ8_hugeLength_7cf53_25 : decode cJ8_hugeLength_7cf53 25 = .ok (.invokevirtual 98, 3) := by decide +kernel
theorem dJ8_hugeLength_7cf53_28 : decode cJ8_hugeLength_7cf53 28 = .ok (.ldc 208, 2) := by decide +kernel
theorem dJ8_hugeLength_7cf53_30 : decode cJ8_hugeLength_7cf53 30 = .ok (.invokevirtual 94, 3) := by decide +kernel
theorem dJ8_hugeLength_7cf53_33 : decode cJ8_hugeLength_7cf53 33 = .ok (.iload_n 1, 1) := by decide +kernel
theorem dJ8_hugeLength_7cf53_34 : decode cJ8_hugeLength_7cf53 34 = .ok (.invokevirtual 98, 3) := by decide +kernel
theorem dJ8_hugeLength_7cf53_37 : decode cJ8_hugeLength_7cf53 37 = .ok (.ldc 210, 2) := by decide +kernel
theorem dJ8_hugeLength_7cf53_39 : decode cJ8_hugeLength_7cf53 39 = .ok (.invokevirtual 94, 3) := by decide +kernel
theorem dJ8_hugeLength_7cf53_42 : decode cJ8_hugeLength_7cf53 42 = .ok (.invokevirtual 101, 3) := by decide +kernel
theorem dJ8_hugeLength_7cf53_45 : decode cJ8_hugeLength_7cf53 45 = .ok (.invokespecial 212, 3) := by decide +kernel
theorem dJ8_hugeLength_7cf53_48 : decode cJ8_hugeLength_7cf53 48 = .ok (.athrow, 1) := by decide +kernel
theorem dJ8_hugeLength_7cf53_49 : decode cJ8_hugeLength_7cf53 49 = .ok (.iload_n 2, 1) := by decide +kernel
theorem dJ8_hugeLength_7cf53_50 : decode cJ8_hugeLength_7cf53 50 = .ok (.ldc 200, 2) := by decide +kernel
theorem dJ8_hugeLength_7cf53_52 : decode cJ8_hugeLength_7cf53 52 = .ok (.if_icmp .gt 6, 3) := by decide +kernel
theorem dJ8_hugeLength_7cf53_55 : decode cJ8_hugeLength_7cf53 55 = .ok (.ldc 200, 2) := by decide +kernel
theorem dJ8_hugeLength_7cf53_57 : decode cJ8_hugeLength_7cf53 57 = .ok (.ireturn, 1) := by decide +kernel
theorem dJ8_hugeLength_7cf53_58 : decode cJ8_hugeLength_7cf53 58 = .ok (.iload_n 2, 1) := by decide +kernel
theorem dJ8_hugeLength_7cf53_59 : decode cJ8_hugeLength_7cf53 59 = .ok (.ireturn, 1) := by decide +kernel
theorem dJ3_checkIndex_8e157_0 : decode cJ3_checkIndex_8e157 0 = .ok (.iload_n 0, 1) := by decide +kernel
theorem dJ3_checkIndex_8e157_1 : decode cJ3_checkIndex_8e157 1 = .ok (.ifCond .lt 8, 3) := by decide +kernel
theorem dJ3_checkIndex_8e157_4 : decode cJ3_checkIndex_8e157 4 = .ok (.iload_n 0, 1) := by decide +kernel
theorem dJ3_checkIndex_8e157_5 : decode cJ3_checkIndex_8e157 5 = .ok (.iload_n 1, 1) := by decide +kernel
theorem dJ3_checkIndex_8e157_6 : decode cJ3_checkIndex_8e157 6 = .ok (.if_icmp .lt 10, 3) := by decide +kernel
theorem dJ3_checkIndex_8e157_9 : decode cJ3_checkIndex_8e157 9 = .ok (.aload_n 2, 1) := by decide +kernel
theorem dJ3_checkIndex_8e157_10 : decode cJ3_checkIndex_8e157 10 = .ok (.iload_n 0, 1) := by decide +kernel
theorem dJ3_checkIndex_8e157_11 : decode cJ3_checkIndex_8e157 11 = .ok (.iload_n 1, 1) := by decide +kernel
theorem dJ3_checkIndex_8e157_12 : decode cJ3_checkIndex_8e157 12 = .ok (.invokestatic 95, 3) := by decide +kernel
theorem dJ3_checkIndex_8e157_15 : decode cJ3_checkIndex_8e157 15 = .ok (.athrow, 1) := by decide +kernel
theorem dJ3_checkIndex_8e157_16 : decode cJ3_checkIndex_8e157 16 = .ok (.iload_n 0, 1) := by decide +kernel
theorem dJ3_checkIndex_8e157_17 : decode cJ3_checkIndex_8e157 17 = .ok (.ireturn, 1) := by decide +kernel
theorem dJ3_checkFromIndexSize_8c36e_0 : decode cJ3_checkFromIndexSize_8c36e 0 = .ok (.iload_n 2, 1) := by decide +kernel
theorem dJ3_checkFromIndexSize_8c36e_1 : decode cJ3_checkFromIndexSize_8c36e 1 = .ok (.iload_n 0, 1) := by decide +kernel
theorem dJ3_checkFromIndexSize_8c36e_2 : decode cJ3_checkFromIndexSize_8c36e 2 = .ok (.ior, 1) := by decide +kernel
theorem dJ3_checkFromIndexSize_8c36e_3 : decode cJ3_checkFromIndexSize_8c36e 3 = .ok (.iload_n 1, 1) := by decide +kernel
theorem dJ3_checkFromIndexSize_8c36e_4 : decode cJ3_checkFromIndexSize_8c36e 4 = .ok (.ior, 1) := by decide +kernel
theorem dJ3_checkFromIndexSize_8c36e_5 : decode cJ3_checkFromIndexSize_8c36e 5 = .ok (.ifCond .lt 10, 3) := by decide +kernel
theorem dJ3_checkFromIndexSize_8c36e_8 : decode cJ3_checkFromIndexSize_8c36e 8 = .ok (.iload_n 1, 1) := by decide +kernel
theorem dJ3_checkFromIndexSize_8c36e_9 : decode cJ3_checkFromIndexSize_8c36e 9 = .ok (.iload_n 2, 1) := by decide +kernel
theorem dJ3_checkFromIndexSize_8c36e_10 : decode cJ3_checkFromIndexSize_8c36e 10 = .ok (.iload_n 0, 1) := by decide +kernel
theorem dJ3_checkFromIndexSize_8c36e_11 : decode cJ3_checkFromIndexSize_8c36e 11 = .ok (.isub, 1) := by decide +kernel
theorem dJ3_checkFromIndexSize_8c36e_12 : decode cJ3_checkFromIndexSize_8c36e 12 = .ok (.if_icmp .le 11, 3) := by decide +kernel
theorem dJ3_checkFromIndexSize_8c36e_15 : decode cJ3_checkFromIndexSize_8c36e 15 = .ok (.aload_n 3, 1) := by decide +kernel
theorem dJ3_checkFromIndexSize_8c36e_16 : decode cJ3_checkFromIndexSize_8c36e 16 = .ok (.iload_n 0, 1) := by decide +kernel
theorem dJ3_checkFromIndexSize_8c36e_17 : decode cJ3_checkFromIndexSize_8c36e 17 = .ok (.iload_n 1, 1) := by decide +kernel
theorem dJ3_checkFromIndexSize_8c36e_18 : decode cJ3_checkFromIndexSize_8c36e 18 = .ok (.iload_n 2, 1) := by decide +kernel
theorem dJ3_checkFromIndexSize_8c36e_19 : decode cJ3_checkFromIndexSize_8c36e 19 = .ok (.invokestatic 103, 3) := by decide +kernel
theorem dJ3_checkFromIndexSize_8c36e_22 : decode cJ3_checkFromIndexSize_8c36e 22 = .ok (.athrow, 1) := by decide +kernel
theorem dJ3_checkFromIndexSize_8c36e_23 : decode cJ3_checkFromIndexSize_8c36e 23 = .ok (.iload_n 0, 1) := by decide +kernel
theorem dJ3_checkFromIndexSize_8c36e_24 : decode cJ3_checkFromIndexSize_8c36e 24 = .ok (.ireturn, 1) := by decide +kernel
theorem dL_join_0 : decode cL_join 0 = .ok (.aload_n 3, 1) := by decide +kernel
theorem dL_join_1 : decode cL_join 1 = .ok (.iconst 0, 1) := by decide +kernel
theorem dL_join_2 : decode cL_join 2 = .ok (.aload_n 0, 1) := by decide +kernel
theorem dL_join_3 : decode cL_join 3 = .ok (.iload_n 1, 1) := by decide +kernel
theorem dL_join_4 : decode cL_join 4 = .ok (.iload_n 2, 1) := by decide +kernel
theorem dL_join_5 : decode cL_join 5 = .ok (.invokevirtual 7, 3) := by decide +kernel
theorem dL_join_8 : decode cL_join 8 = .ok (.i2l, 1) := by decide +kernel
theorem dL_join_9 : decode cL_join 9 = .ok (.lastore, 1) := by decide +kernel
theorem dL_join_10 : decode cL_join 10 = .ok (.goto 11, 3) := by decide +kernel
theorem dL_join_13 : decode cL_join 13 = .ok (.astore 4, 2) := by decide +kernel
theorem dL_join_15 : decode cL_join 15 = .ok (.iconst 1, 1) := by decide +kernel
theorem dL_join_16 : decode cL_join 16 = .ok (.ireturn, 1) := by decide +kernel
theorem dL_join_17 : decode cL_join 17 = .ok (.astore 4, 2) := by decide +kernel
theorem dL_join_19 : decode cL_join 19 = .ok (.iconst 2, 1) := by decide +kernel
theorem dL_join_20 : decode cL_join 20 = .ok (.ireturn, 1) := by decide +kernel
theorem dL_join_21 : decode cL_join 21 = .ok (.iconst 0, 1) := by decide +kernel
theorem dL_join_22 : decode cL_join 22 = .ok (.ireturn, 1) := by decide +kernel
theorem dL_leave_0 : decode cL_leave 0 = .ok (.aload_n 2, 1) := by decide +kernel
theorem dL_leave_1 : decode cL_leave 1 = .ok (.iconst 0, 1) := by decide +kernel
theorem dL_leave_2 : decode cL_leave 2 = .ok (.aload_n 0, 1) := by decide +kernel
theorem dL_leave_3 : decode cL_leave 3 = .ok (.iload_n 1, 1) := by decide +kernel
theorem dL_leave_4 : decode cL_leave 4 = .ok (.invokevirtual 17, 3) := by decide +kernel
theorem dL_leave_7 : decode cL_leave 7 = .ok (.i2l, 1) := by decide +kernel
theorem dL_leave_8 : decode cL_leave 8 = .ok (.lastore, 1) := by decide +kernel
theorem dL_leave_9 : decode cL_leave 9 = .ok (.goto 9, 3) := by decide +kernel
theorem dL_leave_12 : decode cL_leave 12 = .ok (.astore_n 3, 1) := by decide +kernel
theorem dL_leave_13 : decode cL_leave 13 = .ok (.iconst 1, 1) := by decide +kernel
theorem dL_leave_14 : decode cL_leave 14 = .ok (.ireturn, 1) := by decide +kernel
theorem dL_leave_15 : decode cL_leave 15 = .ok (.astore_n 3, 1) := by decide +kernel
theorem dL_leave_16 : decode cL_leave 16 = .ok (.iconst 2, 1) := by decide +kernel
theorem dL_leave_17 : decode cL_leave 17 = .ok (.ireturn, 1) := by decide +kernel
theorem dL_leave_18 : decode cL_leave 18 = .ok (.iconst 0, 1) := by decide +kernel
theorem dL_leave_19 : decode cL_leave 19 = .ok (.ireturn, 1) := by decide +kernel
theorem dL_film_0 : decode cL_film 0 = .ok (.aload_n 2, 1) := by decide +kernel
theorem dL_film_1 : decode cL_film 1 = .ok (.iconst 0, 1) := by decide +kernel
theorem dL_film_2 : decode cL_film 2 = .ok (.aload_n 0, 1) := by decide +kernel
theorem dL_film_3 : decode cL_film 3 = .ok (.iload_n 1, 1) := by decide +kernel
theorem dL_film_4 : decode cL_film 4 = .ok (.invokevirtual 23, 3) := by decide +kernel
theorem dL_film_7 : decode cL_film 7 = .ok (.i2l, 1) := by decide +kernel
theorem dL_film_8 : decode cL_film 8 = .ok (.lastore, 1) := by decide +kernel
theorem dL_film_9 : decode cL_film 9 = .ok (.goto 9, 3) := by decide +kernel
theorem dL_film_12 : decode cL_film 12 = .ok (.astore_n 3, 1) := by decide +kernel
theorem dL_film_13 : decode cL_film 13 = .ok (.iconst 1, 1) := by decide +kernel
theorem dL_film_14 : decode cL_film 14 = .ok (.ireturn, 1) := by decide +kernel
theorem dL_film_15 : decode cL_film 15 = .ok (.astore_n 3, 1) := by decide +kernel
theorem dL_film_16 : decode cL_film 16 = .ok (.iconst 2, 1) := by decide +kernel
theorem dL_film_17 : decode cL_film 17 = .ok (.ireturn, 1) := by decide +kernel
theorem dL_film_18 : decode cL_film 18 = .ok (.iconst 0, 1) := by decide +kernel
theorem dL_film_19 : decode cL_film 19 = .ok (.ireturn, 1) := by decide +kernel
theorem dL_fetch_0 : decode cL_fetch 0 = .ok (.aload_n 3, 1) := by decide +kernel
theorem dL_fetch_1 : decode cL_fetch 1 = .ok (.iconst 0, 1) := by decide +kernel
theorem dL_fetch_2 : decode cL_fetch 2 = .ok (.aload_n 0, 1) := by decide +kernel
theorem dL_fetch_3 : decode cL_fetch 3 = .ok (.iload_n 1, 1) := by decide +kernel
theorem dL_fetch_4 : decode cL_fetch 4 = .ok (.iload_n 2, 1) := by decide +kernel
theorem dL_fetch_5 : decode cL_fetch 5 = .ok (.invokevirtual 26, 3) := by decide +kernel
theorem dL_fetch_8 : decode cL_fetch 8 = .ok (.i2l, 1) := by decide +kernel
theorem dL_fetch_9 : decode cL_fetch 9 = .ok (.lastore, 1) := by decide +kernel
theorem dL_fetch_10 : decode cL_fetch 10 = .ok (.goto 11, 3) := by decide +kernel
theorem dL_fetch_13 : decode cL_fetch 13 = .ok (.astore 4, 2) := by decide +kernel
theorem dL_fetch_15 : decode cL_fetch 15 = .ok (.iconst 1, 1) := by decide +kernel
theorem dL_fetch_16 : decode cL_fetch 16 = .ok (.ireturn, 1) := by decide +kernel
theorem dL_fetch_17 : decode cL_fetch 17 = .ok (.astore 4, 2) := by decide +kernel
theorem dL_fetch_19 : decode cL_fetch 19 = .ok (.iconst 2, 1) := by decide +kernel
theorem dL_fetch_20 : decode cL_fetch 20 = .ok (.ireturn, 1) := by decide +kernel
theorem dL_fetch_21 : decode cL_fetch 21 = .ok (.iconst 0, 1) := by decide +kernel
theorem dL_fetch_22 : decode cL_fetch 22 = .ok (.ireturn, 1) := by decide +kernel
theorem dL_pass_0 : decode cL_pass 0 = .ok (.aload_n 2, 1) := by decide +kernel
theorem dL_pass_1 : decode cL_pass 1 = .ok (.iconst 0, 1) := by decide +kernel
theorem dL_pass_2 : decode cL_pass 2 = .ok (.aload_n 0, 1) := by decide +kernel
theorem dL_pass_3 : decode cL_pass 3 = .ok (.iload_n 1, 1) := by decide +kernel
theorem dL_pass_4 : decode cL_pass 4 = .ok (.invokevirtual 29, 3) := by decide +kernel
theorem dL_pass_7 : decode cL_pass 7 = .ok (.i2l, 1) := by decide +kernel
theorem dL_pass_8 : decode cL_pass 8 = .ok (.lastore, 1) := by decide +kernel
theorem dL_pass_9 : decode cL_pass 9 = .ok (.goto 9, 3) := by decide +kernel
theorem dL_pass_12 : decode cL_pass 12 = .ok (.astore_n 3, 1) := by decide +kernel
theorem dL_pass_13 : decode cL_pass 13 = .ok (.iconst 1, 1) := by decide +kernel
theorem dL_pass_14 : decode cL_pass 14 = .ok (.ireturn, 1) := by decide +kernel
theorem dL_pass_15 : decode cL_pass 15 = .ok (.astore_n 3, 1) := by decide +kernel
theorem dL_pass_16 : decode cL_pass 16 = .ok (.iconst 2, 1) := by decide +kernel
theorem dL_pass_17 : decode cL_pass 17 = .ok (.ireturn, 1) := by decide +kernel
theorem dL_pass_18 : decode cL_pass 18 = .ok (.iconst 0, 1) := by decide +kernel
theorem dL_pass_19 : decode cL_pass 19 = .ok (.ireturn, 1) := by decide +kernel
theorem dL_propose_0 : decode cL_propose 0 = .ok (.aload 4, 2) := by decide +kernel
theorem dL_propose_2 : decode cL_propose 2 = .ok (.iconst 0, 1) := by decide +kernel
theorem dL_propose_3 : decode cL_propose 3 = .ok (.aload_n 0, 1) := by decide +kernel
theorem dL_propose_4 : decode cL_propose 4 = .ok (.iload_n 1, 1) := by decide +kernel
theorem dL_propose_5 : decode cL_propose 5 = .ok (.iload_n 2, 1) := by decide +kernel
theorem dL_propose_6 : decode cL_propose 6 = .ok (.iload_n 3, 1) := by decide +kernel
theorem dL_propose_7 : decode cL_propose 7 = .ok (.invokevirtual 32, 3) := by decide +kernel
theorem dL_propose_10 : decode cL_propose 10 = .ok (.i2l, 1) := by decide +kernel
theorem dL_propose_11 : decode cL_propose 11 = .ok (.lastore, 1) := by decide +kernel
theorem dL_propose_12 : decode cL_propose 12 = .ok (.goto 15, 3) := by decide +kernel
theorem dL_propose_15 : decode cL_propose 15 = .ok (.astore 5, 2) := by decide +kernel
theorem dL_propose_17 : decode cL_propose 17 = .ok (.iconst 1, 1) := by decide +kernel
theorem dL_propose_18 : decode cL_propose 18 = .ok (.ireturn, 1) := by decide +kernel
theorem dL_propose_19 : decode cL_propose 19 = .ok (.astore 5, 2) := by decide +kernel
theorem dL_propose_21 : decode cL_propose 21 = .ok (.iconst 2, 1) := by decide +kernel
theorem dL_propose_22 : decode cL_propose 22 = .ok (.ireturn, 1) := by decide +kernel
theorem dL_propose_23 : decode cL_propose 23 = .ok (.astore 5, 2) := by decide +kernel
theorem dL_propose_25 : decode cL_propose 25 = .ok (.iconst 3, 1) := by decide +kernel
theorem dL_propose_26 : decode cL_propose 26 = .ok (.ireturn, 1) := by decide +kernel
theorem dL_propose_27 : decode cL_propose 27 = .ok (.iconst 0, 1) := by decide +kernel
theorem dL_propose_28 : decode cL_propose 28 = .ok (.ireturn, 1) := by decide +kernel
theorem dL_vote_0 : decode cL_vote 0 = .ok (.aload 4, 2) := by decide +kernel
theorem dL_vote_2 : decode cL_vote 2 = .ok (.iconst 0, 1) := by decide +kernel
theorem dL_vote_3 : decode cL_vote 3 = .ok (.aload_n 0, 1) := by decide +kernel
theorem dL_vote_4 : decode cL_vote 4 = .ok (.iload_n 1, 1) := by decide +kernel
theorem dL_vote_5 : decode cL_vote 5 = .ok (.iload_n 2, 1) := by decide +kernel
theorem dL_vote_6 : decode cL_vote 6 = .ok (.iload_n 3, 1) := by decide +kernel
theorem dL_vote_7 : decode cL_vote 7 = .ok (.invokevirtual 36, 3) := by decide +kernel
theorem dL_vote_10 : decode cL_vote 10 = .ok (.i2l, 1) := by decide +kernel
theorem dL_vote_11 : decode cL_vote 11 = .ok (.lastore, 1) := by decide +kernel
theorem dL_vote_12 : decode cL_vote 12 = .ok (.goto 11, 3) := by decide +kernel
theorem dL_vote_15 : decode cL_vote 15 = .ok (.astore 5, 2) := by decide +kernel
theorem dL_vote_17 : decode cL_vote 17 = .ok (.iconst 1, 1) := by decide +kernel
theorem dL_vote_18 : decode cL_vote 18 = .ok (.ireturn, 1) := by decide +kernel
theorem dL_vote_19 : decode cL_vote 19 = .ok (.astore 5, 2) := by decide +kernel
theorem dL_vote_21 : decode cL_vote 21 = .ok (.iconst 2, 1) := by decide +kernel
theorem dL_vote_22 : decode cL_vote 22 = .ok (.ireturn, 1) := by decide +kernel
theorem dL_vote_23 : decode cL_vote 23 = .ok (.iconst 0, 1) := by decide +kernel
theorem dL_vote_24 : decode cL_vote 24 = .ok (.ireturn, 1) := by decide +kernel
theorem dL_rule_0 : decode cL_rule 0 = .ok (.aload_n 2, 1) := by decide +kernel
theorem dL_rule_1 : decode cL_rule 1 = .ok (.iconst 0, 1) := by decide +kernel
theorem dL_rule_2 : decode cL_rule 2 = .ok (.aload_n 0, 1) := by decide +kernel
theorem dL_rule_3 : decode cL_rule 3 = .ok (.iload_n 1, 1) := by decide +kernel
theorem dL_rule_4 : decode cL_rule 4 = .ok (.invokevirtual 40, 3) := by decide +kernel
theorem dL_rule_7 : decode cL_rule 7 = .ok (.i2l, 1) := by decide +kernel
theorem dL_rule_8 : decode cL_rule 8 = .ok (.lastore, 1) := by decide +kernel
theorem dL_rule_9 : decode cL_rule 9 = .ok (.goto 6, 3) := by decide +kernel
theorem dL_rule_12 : decode cL_rule 12 = .ok (.astore_n 3, 1) := by decide +kernel
theorem dL_rule_13 : decode cL_rule 13 = .ok (.iconst 1, 1) := by decide +kernel
theorem dL_rule_14 : decode cL_rule 14 = .ok (.ireturn, 1) := by decide +kernel
theorem dL_rule_15 : decode cL_rule 15 = .ok (.iconst 0, 1) := by decide +kernel
theorem dL_rule_16 : decode cL_rule 16 = .ok (.ireturn, 1) := by decide +kernel
theorem dL_proposal_0 : decode cL_proposal 0 = .ok (.aload_n 3, 1) := by decide +kernel
theorem dL_proposal_1 : decode cL_proposal 1 = .ok (.iconst 0, 1) := by decide +kernel
theorem dL_proposal_2 : decode cL_proposal 2 = .ok (.aload_n 0, 1) := by decide +kernel
theorem dL_proposal_3 : decode cL_proposal 3 = .ok (.iload_n 1, 1) := by decide +kernel
theorem dL_proposal_4 : decode cL_proposal 4 = .ok (.iload_n 2, 1) := by decide +kernel
theorem dL_proposal_5 : decode cL_proposal 5 = .ok (.invokevirtual 43, 3) := by decide +kernel
theorem dL_proposal_8 : decode cL_proposal 8 = .ok (.i2l, 1) := by decide +kernel
theorem dL_proposal_9 : decode cL_proposal 9 = .ok (.lastore, 1) := by decide +kernel
theorem dL_proposal_10 : decode cL_proposal 10 = .ok (.goto 11, 3) := by decide +kernel
theorem dL_proposal_13 : decode cL_proposal 13 = .ok (.astore 4, 2) := by decide +kernel
theorem dL_proposal_15 : decode cL_proposal 15 = .ok (.iconst 1, 1) := by decide +kernel
theorem dL_proposal_16 : decode cL_proposal 16 = .ok (.ireturn, 1) := by decide +kernel
theorem dL_proposal_17 : decode cL_proposal 17 = .ok (.astore 4, 2) := by decide +kernel
theorem dL_proposal_19 : decode cL_proposal 19 = .ok (.iconst 2, 1) := by decide +kernel
theorem dL_proposal_20 : decode cL_proposal 20 = .ok (.ireturn, 1) := by decide +kernel
theorem dL_proposal_21 : decode cL_proposal 21 = .ok (.iconst 0, 1) := by decide +kernel
theorem dL_proposal_22 : decode cL_proposal 22 = .ok (.ireturn, 1) := by decide +kernel
theorem dL_member_0 : decode cL_member 0 = .ok (.aload_n 3, 1) := by decide +kernel
theorem dL_member_1 : decode cL_member 1 = .ok (.iconst 0, 1) := by decide +kernel
theorem dL_member_2 : decode cL_member 2 = .ok (.aload_n 0, 1) := by decide +kernel
theorem dL_member_3 : decode cL_member 3 = .ok (.iload_n 1, 1) := by decide +kernel
theorem dL_member_4 : decode cL_member 4 = .ok (.iload_n 2, 1) := by decide +kernel
theorem dL_member_5 : decode cL_member 5 = .ok (.invokevirtual 46, 3) := by decide +kernel
theorem dL_member_8 : decode cL_member 8 = .ok (.i2l, 1) := by decide +kernel
theorem dL_member_9 : decode cL_member 9 = .ok (.lastore, 1) := by decide +kernel
theorem dL_member_10 : decode cL_member 10 = .ok (.goto 11, 3) := by decide +kernel
theorem dL_member_13 : decode cL_member 13 = .ok (.astore 4, 2) := by decide +kernel
theorem dL_member_15 : decode cL_member 15 = .ok (.iconst 1, 1) := by decide +kernel
theorem dL_member_16 : decode cL_member 16 = .ok (.ireturn, 1) := by decide +kernel
theorem dL_member_17 : decode cL_member 17 = .ok (.astore 4, 2) := by decide +kernel
theorem dL_member_19 : decode cL_member 19 = .ok (.iconst 2, 1) := by decide +kernel
theorem dL_member_20 : decode cL_member 20 = .ok (.ireturn, 1) := by decide +kernel
theorem dL_member_21 : decode cL_member 21 = .ok (.iconst 0, 1) := by decide +kernel
theorem dL_member_22 : decode cL_member 22 = .ok (.ireturn, 1) := by decide +kernel
theorem dL_has_0 : decode cL_has 0 = .ok (.aload_n 3, 1) := by decide +kernel
theorem dL_has_1 : decode cL_has 1 = .ok (.iconst 0, 1) := by decide +kernel
theorem dL_has_2 : decode cL_has 2 = .ok (.aload_n 0, 1) := by decide +kernel
theorem dL_has_3 : decode cL_has 3 = .ok (.iload_n 1, 1) := by decide +kernel
theorem dL_has_4 : decode cL_has 4 = .ok (.iload_n 2, 1) := by decide +kernel
theorem dL_has_5 : decode cL_has 5 = .ok (.invokevirtual 49, 3) := by decide +kernel
theorem dL_has_8 : decode cL_has 8 = .ok (.ifCond .eq 7, 3) := by decide +kernel
theorem dL_has_11 : decode cL_has 11 = .ok (.lconst 1, 1) := by decide +kernel
theorem dL_has_12 : decode cL_has 12 = .ok (.goto 4, 3) := by decide +kernel
theorem dL_has_15 : decode cL_has 15 = .ok (.lconst 0, 1) := by decide +kernel
theorem dL_has_16 : decode cL_has 16 = .ok (.lastore, 1) := by decide +kernel
theorem dL_has_17 : decode cL_has 17 = .ok (.goto 7, 3) := by decide +kernel
theorem dL_has_20 : decode cL_has 20 = .ok (.astore 4, 2) := by decide +kernel
theorem dL_has_22 : decode cL_has 22 = .ok (.iconst 1, 1) := by decide +kernel
theorem dL_has_23 : decode cL_has 23 = .ok (.ireturn, 1) := by decide +kernel
theorem dL_has_24 : decode cL_has 24 = .ok (.iconst 0, 1) := by decide +kernel
theorem dL_has_25 : decode cL_has 25 = .ok (.ireturn, 1) := by decide +kernel
theorem dL_owes_0 : decode cL_owes 0 = .ok (.aload_n 3, 1) := by decide +kernel
theorem dL_owes_1 : decode cL_owes 1 = .ok (.iconst 0, 1) := by decide +kernel
theorem dL_owes_2 : decode cL_owes 2 = .ok (.aload_n 0, 1) := by decide +kernel
theorem dL_owes_3 : decode cL_owes 3 = .ok (.iload_n 1, 1) := by decide +kernel
theorem dL_owes_4 : decode cL_owes 4 = .ok (.iload_n 2, 1) := by decide +kernel
theorem dL_owes_5 : decode cL_owes 5 = .ok (.invokevirtual 53, 3) := by decide +kernel
theorem dL_owes_8 : decode cL_owes 8 = .ok (.i2l, 1) := by decide +kernel
theorem dL_owes_9 : decode cL_owes 9 = .ok (.lastore, 1) := by decide +kernel
theorem dL_owes_10 : decode cL_owes 10 = .ok (.goto 7, 3) := by decide +kernel
theorem dL_owes_13 : decode cL_owes 13 = .ok (.astore 4, 2) := by decide +kernel
theorem dL_owes_15 : decode cL_owes 15 = .ok (.iconst 1, 1) := by decide +kernel
theorem dL_owes_16 : decode cL_owes 16 = .ok (.ireturn, 1) := by decide +kernel
theorem dL_owes_17 : decode cL_owes 17 = .ok (.iconst 0, 1) := by decide +kernel
theorem dL_owes_18 : decode cL_owes 18 = .ok (.ireturn, 1) := by decide +kernel
theorem dL_worth_0 : decode cL_worth 0 = .ok (.aload_n 2, 1) := by decide +kernel
theorem dL_worth_1 : decode cL_worth 1 = .ok (.iconst 0, 1) := by decide +kernel
theorem dL_worth_2 : decode cL_worth 2 = .ok (.aload_n 0, 1) := by decide +kernel
theorem dL_worth_3 : decode cL_worth 3 = .ok (.iload_n 1, 1) := by decide +kernel
theorem dL_worth_4 : decode cL_worth 4 = .ok (.invokevirtual 56, 3) := by decide +kernel
theorem dL_worth_7 : decode cL_worth 7 = .ok (.i2l, 1) := by decide +kernel
theorem dL_worth_8 : decode cL_worth 8 = .ok (.lastore, 1) := by decide +kernel
theorem dL_worth_9 : decode cL_worth 9 = .ok (.goto 6, 3) := by decide +kernel
theorem dL_worth_12 : decode cL_worth 12 = .ok (.astore_n 3, 1) := by decide +kernel
theorem dL_worth_13 : decode cL_worth 13 = .ok (.iconst 1, 1) := by decide +kernel
theorem dL_worth_14 : decode cL_worth 14 = .ok (.ireturn, 1) := by decide +kernel
theorem dL_worth_15 : decode cL_worth 15 = .ok (.iconst 0, 1) := by decide +kernel
theorem dL_worth_16 : decode cL_worth 16 = .ok (.ireturn, 1) := by decide +kernel
theorem dL_accountAnew_0 : decode cL_accountAnew 0 = .ok (.aload_n 2, 1) := by decide +kernel
theorem dL_accountAnew_1 : decode cL_accountAnew 1 = .ok (.iconst 0, 1) := by decide +kernel
theorem dL_accountAnew_2 : decode cL_accountAnew 2 = .ok (.aload_n 0, 1) := by decide +kernel
theorem dL_accountAnew_3 : decode cL_accountAnew 3 = .ok (.iload_n 1, 1) := by decide +kernel
theorem dL_accountAnew_4 : decode cL_accountAnew 4 = .ok (.invokevirtual 59, 3) := by decide +kernel
theorem dL_accountAnew_7 : decode cL_accountAnew 7 = .ok (.i2l, 1) := by decide +kernel
theorem dL_accountAnew_8 : decode cL_accountAnew 8 = .ok (.lastore, 1) := by decide +kernel
theorem dL_accountAnew_9 : decode cL_accountAnew 9 = .ok (.goto 6, 3) := by decide +kernel
theorem dL_accountAnew_12 : decode cL_accountAnew 12 = .ok (.astore_n 3, 1) := by decide +kernel
theorem dL_accountAnew_13 : decode cL_accountAnew 13 = .ok (.iconst 1, 1) := by decide +kernel
theorem dL_accountAnew_14 : decode cL_accountAnew 14 = .ok (.ireturn, 1) := by decide +kernel
theorem dL_accountAnew_15 : decode cL_accountAnew 15 = .ok (.iconst 0, 1) := by decide +kernel
theorem dL_accountAnew_16 : decode cL_accountAnew 16 = .ok (.ireturn, 1) := by decide +kernel
theorem dL_owesAnew_0 : decode cL_owesAnew 0 = .ok (.aload_n 3, 1) := by decide +kernel
theorem dL_owesAnew_1 : decode cL_owesAnew 1 = .ok (.iconst 0, 1) := by decide +kernel
theorem dL_owesAnew_2 : decode cL_owesAnew 2 = .ok (.aload_n 0, 1) := by decide +kernel
theorem dL_owesAnew_3 : decode cL_owesAnew 3 = .ok (.iload_n 1, 1) := by decide +kernel
theorem dL_owesAnew_4 : decode cL_owesAnew 4 = .ok (.iload_n 2, 1) := by decide +kernel
theorem dL_owesAnew_5 : decode cL_owesAnew 5 = .ok (.invokevirtual 62, 3) := by decide +kernel
theorem dL_owesAnew_8 : decode cL_owesAnew 8 = .ok (.i2l, 1) := by decide +kernel
theorem dL_owesAnew_9 : decode cL_owesAnew 9 = .ok (.lastore, 1) := by decide +kernel
theorem dL_owesAnew_10 : decode cL_owesAnew 10 = .ok (.goto 7, 3) := by decide +kernel
theorem dL_owesAnew_13 : decode cL_owesAnew 13 = .ok (.astore 4, 2) := by decide +kernel
theorem dL_owesAnew_15 : decode cL_owesAnew 15 = .ok (.iconst 1, 1) := by decide +kernel
theorem dL_owesAnew_16 : decode cL_owesAnew 16 = .ok (.ireturn, 1) := by decide +kernel
theorem dL_owesAnew_17 : decode cL_owesAnew 17 = .ok (.iconst 0, 1) := by decide +kernel
theorem dL_owesAnew_18 : decode cL_owesAnew 18 = .ok (.ireturn, 1) := by decide +kernel
theorem dL_told_0 : decode cL_told 0 = .ok (.aload_n 2, 1) := by decide +kernel
theorem dL_told_1 : decode cL_told 1 = .ok (.iconst 0, 1) := by decide +kernel
theorem dL_told_2 : decode cL_told 2 = .ok (.aload_n 0, 1) := by decide +kernel
theorem dL_told_3 : decode cL_told 3 = .ok (.iload_n 1, 1) := by decide +kernel
theorem dL_told_4 : decode cL_told 4 = .ok (.invokevirtual 65, 3) := by decide +kernel
theorem dL_told_7 : decode cL_told 7 = .ok (.i2l, 1) := by decide +kernel
theorem dL_told_8 : decode cL_told 8 = .ok (.lastore, 1) := by decide +kernel
theorem dL_told_9 : decode cL_told 9 = .ok (.goto 6, 3) := by decide +kernel
theorem dL_told_12 : decode cL_told 12 = .ok (.astore_n 3, 1) := by decide +kernel
theorem dL_told_13 : decode cL_told 13 = .ok (.iconst 1, 1) := by decide +kernel
theorem dL_told_14 : decode cL_told 14 = .ok (.ireturn, 1) := by decide +kernel
theorem dL_told_15 : decode cL_told 15 = .ok (.iconst 0, 1) := by decide +kernel
theorem dL_told_16 : decode cL_told 16 = .ok (.ireturn, 1) := by decide +kernel
end
section
theorem dX6_init_0 : decode cX6_init 0 = .ok (.aload_n 0, 1) := by decide +kernel
theorem dX6_init_1 : decode cX6_init 1 = .ok (.invokespecial 1, 3) := by decide +kernel
theorem dX6_init_4 : decode cX6_init 4 = .ok (.aload_n 0, 1) := by decide +kernel
theorem dX6_init_5 : decode cX6_init 5 = .ok (.new 7, 3) := by decide +kernel
theorem dX6_init_8 : decode cX6_init 8 = .ok (.dup, 1) := by decide +kernel
theorem dX6_init_9 : decode cX6_init 9 = .ok (.invokespecial 9, 3) := by decide +kernel
theorem dX6_init_12 : decode cX6_init 12 = .ok (.putfield 10, 3) := by decide +kernel
theorem dX6_init_15 : decode cX6_init 15 = .ok (.aload_n 0, 1) := by decide +kernel
theorem dX6_init_16 : decode cX6_init 16 = .ok (.new 7, 3) := by decide +kernel
theorem dX6_init_19 : decode cX6_init 19 = .ok (.dup, 1) := by decide +kernel
theorem dX6_init_20 : decode cX6_init 20 = .ok (.invokespecial 9, 3) := by decide +kernel
theorem dX6_init_23 : decode cX6_init 23 = .ok (.putfield 16, 3) := by decide +kernel
theorem dX6_init_26 : decode cX6_init 26 = .ok (.aload_n 0, 1) := by decide +kernel
theorem dX6_init_27 : decode cX6_init 27 = .ok (.new 7, 3) := by decide +kernel
theorem dX6_init_30 : decode cX6_init 30 = .ok (.dup, 1) := by decide +kernel
theorem dX6_init_31 : decode cX6_init 31 = .ok (.invokespecial 9, 3) := by decide +kernel
theorem dX6_init_34 : decode cX6_init 34 = .ok (.putfield 19, 3) := by decide +kernel
theorem dX6_init_37 : decode cX6_init 37 = .ok (.aload_n 0, 1) := by decide +kernel
theorem dX6_init_38 : decode cX6_init 38 = .ok (.new 7, 3) := by decide +kernel
theorem dX6_init_41 : decode cX6_init 41 = .ok (.dup, 1) := by decide +kernel
theorem dX6_init_42 : decode cX6_init 42 = .ok (.invokespecial 9, 3) := by decide +kernel
theorem dX6_init_45 : decode cX6_init 45 = .ok (.putfield 22, 3) := by decide +kernel
theorem dX6_init_48 : decode cX6_init 48 = .ok (.aload_n 0, 1) := by decide +kernel
theorem dX6_init_49 : decode cX6_init 49 = .ok (.iconst 0, 1) := by decide +kernel
theorem dX6_init_50 : decode cX6_init 50 = .ok (.putfield 25, 3) := by decide +kernel
theorem dX6_init_53 : decode cX6_init 53 = .ok (.aload_n 0, 1) := by decide +kernel
theorem dX6_init_54 : decode cX6_init 54 = .ok (.iconst 0, 1) := by decide +kernel
theorem dX6_init_55 : decode cX6_init 55 = .ok (.putfield 29, 3) := by decide +kernel
theorem dX6_init_58 : decode cX6_init 58 = .ok (.return_, 1) := by decide +kernel
theorem dX6_join_0 : decode cX6_join 0 = .ok (.iload_n 1, 1) := by decide +kernel
theorem dX6_join_1 : decode cX6_join 1 = .ok (.iconst 1, 1) := by decide +kernel
theorem dX6_join_2 : decode cX6_join 2 = .ok (.if_icmp .lt 9, 3) := by decide +kernel
theorem dX6_join_5 : decode cX6_join 5 = .ok (.iload_n 1, 1) := by decide +kernel
theorem dX6_join_6 : decode cX6_join 6 = .ok (.bipush 20, 2) := by decide +kernel
theorem dX6_join_8 : decode cX6_join 8 = .ok (.if_icmp .le 13, 3) := by decide +kernel
theorem dX6_join_11 : decode cX6_join 11 = .ok (.new 32, 3) := by decide +kernel
theorem dX6_join_14 : decode cX6_join 14 = .ok (.dup, 1) := by decide +kernel
theorem dX6_join_15 : decode cX6_join 15 = .ok (.ldc 34, 2) := by decide +kernel
theorem dX6_join_17 : decode cX6_join 17 = .ok (.invokespecial 36, 3) := by decide +kernel
theorem dX6_join_20 : decode cX6_join 20 = .ok (.athrow, 1) := by decide +kernel
theorem dX6_join_21 : decode cX6_join 21 = .ok (.iload_n 2, 1) := by decide +kernel
theorem dX6_join_22 : decode cX6_join 22 = .ok (.ifCond .lt 9, 3) := by decide +kernel
theorem dX6_join_25 : decode cX6_join 25 = .ok (.iload_n 2, 1) := by decide +kernel
theorem dX6_join_26 : decode cX6_join 26 = .ok (.bipush 50, 2) := by decide +kernel
theorem dX6_join_28 : decode cX6_join 28 = .ok (.if_icmp .le 13, 3) := by decide +kernel
theorem dX6_join_31 : decode cX6_join 31 = .ok (.new 32, 3) := by decide +kernel
theorem dX6_join_34 : decode cX6_join 34 = .ok (.dup, 1) := by decide +kernel
theorem dX6_join_35 : decode cX6_join 35 = .ok (.ldc 39, 2) := by decide +kernel
theorem dX6_join_37 : decode cX6_join 37 = .ok (.invokespecial 36, 3) := by decide +kernel
theorem dX6_join_40 : decode cX6_join 40 = .ok (.athrow, 1) := by decide +kernel
theorem dX6_join_41 : decode cX6_join 41 = .ok (.aload_n 0, 1) := by decide +kernel
theorem dX6_join_42 : decode cX6_join 42 = .ok (.getfield 10, 3) := by decide +kernel
theorem dX6_join_45 : decode cX6_join 45 = .ok (.invokevirtual 41, 3) := by decide +kernel
theorem dX6_join_48 : decode cX6_join 48 = .ok (.bipush 10, 2) := by decide +kernel
theorem dX6_join_50 : decode cX6_join 50 = .ok (.if_icmp .lt 13, 3) := by decide +kernel
theorem dX6_join_53 : decode cX6_join 53 = .ok (.new 45, 3) := by decide +kernel
theorem dX6_join_56 : decode cX6_join 56 = .ok (.dup, 1) := by decide +kernel
theorem dX6_join_57 : decode cX6_join 57 = .ok (.ldc 47, 2) := by decide +kernel
theorem dX6_join_59 : decode cX6_join 59 = .ok (.invokespecial 49, 3) := by decide +kernel
theorem dX6_join_62 : decode cX6_join 62 = .ok (.athrow, 1) := by decide +kernel
theorem dX6_join_63 : decode cX6_join 63 = .ok (.aload_n 0, 1) := by decide +kernel
theorem dX6_join_64 : decode cX6_join 64 = .ok (.getfield 10, 3) := by decide +kernel
theorem dX6_join_67 : decode cX6_join 67 = .ok (.invokevirtual 41, 3) := by decide +kernel
theorem dX6_join_70 : decode cX6_join 70 = .ok (.istore_n 3, 1) := by decide +kernel
theorem dX6_join_71 : decode cX6_join 71 = .ok (.aload_n 0, 1) := by decide +kernel
theorem dX6_join_72 : decode cX6_join 72 = .ok (.getfield 10, 3) := by decide +kernel
theorem dX6_join_75 : decode cX6_join 75 = .ok (.new 50, 3) := by decide +kernel
theorem dX6_join_78 : decode cX6_join 78 = .ok (.dup, 1) := by decide +kernel
theorem dX6_join_79 : decode cX6_join 79 = .ok (.iload_n 3, 1) := by decide +kernel
theorem dX6_join_80 : decode cX6_join 80 = .ok (.iload_n 1, 1) := by decide +kernel
theorem dX6_join_81 : decode cX6_join 81 = .ok (.iload_n 2, 1) := by decide +kernel
theorem dX6_join_82 : decode cX6_join 82 = .ok (.invokespecial 52, 3) := by decide +kernel
theorem dX6_join_85 : decode cX6_join 85 = .ok (.invokevirtual 55, 3) := by decide +kernel
theorem dX6_join_88 : decode cX6_join 88 = .ok (.pop, 1) := by decide +kernel
theorem dX6_join_89 : decode cX6_join 89 = .ok (.iload_n 3, 1) := by decide +kernel
theorem dX6_join_90 : decode cX6_join 90 = .ok (.ireturn, 1) := by decide +kernel
theorem dX6_leave_0 : decode cX6_leave 0 = .ok (.aload_n 0, 1) := by decide +kernel
theorem dX6_leave_1 : decode cX6_leave 1 = .ok (.iload_n 1, 1) := by decide +kernel
theorem dX6_leave_2 : decode cX6_leave 2 = .ok (.invokevirtual 59, 3) := by decide +kernel
theorem dX6_leave_5 : decode cX6_leave 5 = .ok (.astore_n 2, 1) := by decide +kernel
theorem dX6_leave_6 : decode cX6_leave 6 = .ok (.aload_n 2, 1) := by decide +kernel
theorem dX6_leave_7 : decode cX6_leave 7 = .ok (.invokevirtual 63, 3) := by decide +kernel
theorem dX6_leave_10 : decode cX6_leave 10 = .ok (.aload_n 0, 1) := by decide +kernel
theorem dX6_leave_11 : decode cX6_leave 11 = .ok (.new 66, 3) := by decide +kernel
theorem dX6_leave_14 : decode cX6_leave 14 = .ok (.dup, 1) := by decide +kernel
theorem dX6_leave_15 : decode cX6_leave 15 = .ok (.getstatic 68, 3) := by decide +kernel
theorem dX6_leave_18 : decode cX6_leave 18 = .ok (.aload_n 0, 1) := by decide +kernel
theorem dX6_leave_19 : decode cX6_leave 19 = .ok (.getfield 25, 3) := by decide +kernel
theorem dX6_leave_22 : decode cX6_leave 22 = .ok (.iload_n 1, 1) := by decide +kernel
theorem dX6_leave_23 : decode cX6_leave 23 = .ok (.iconst 0, 1) := by decide +kernel
theorem dX6_leave_24 : decode cX6_leave 24 = .ok (.invokespecial 74, 3) := by decide +kernel
theorem dX6_leave_27 : decode cX6_leave 27 = .ok (.invokevirtual 77, 3) := by decide +kernel
theorem dX6_leave_30 : decode cX6_leave 30 = .ok (.aload_n 0, 1) := by decide +kernel
theorem dX6_leave_31 : decode cX6_leave 31 = .ok (.invokevirtual 81, 3) := by decide +kernel
theorem dX6_leave_34 : decode cX6_leave 34 = .ok (.istore_n 3, 1) := by decide +kernel
theorem dX6_leave_35 : decode cX6_leave 35 = .ok (.iconst 0, 1) := by decide +kernel
theorem dX6_leave_36 : decode cX6_leave 36 = .ok (.istore 4, 2) := by decide +kernel
theorem dX6_leave_38 : decode cX6_leave 38 = .ok (.iload 4, 2) := by decide +kernel
theorem dX6_leave_40 : decode cX6_leave 40 = .ok (.aload_n 0, 1) := by decide +kernel
theorem dX6_leave_41 : decode cX6_leave 41 = .ok (.getfield 19, 3) := by decide +kernel
theorem dX6_leave_44 : decode cX6_leave 44 = .ok (.invokevirtual 41, 3) := by decide +kernel
theorem dX6_leave_47 : decode cX6_leave 47 = .ok (.if_icmp .ge 48, 3) := by decide +kernel
theorem dX6_leave_50 : decode cX6_leave 50 = .ok (.aload_n 0, 1) := by decide +kernel
theorem dX6_leave_51 : decode cX6_leave 51 = .ok (.getfield 19, 3) := by decide +kernel
theorem dX6_leave_54 : decode cX6_leave 54 = .ok (.iload 4, 2) := by decide +kernel
theorem dX6_leave_56 : decode cX6_leave 56 = .ok (.invokevirtual 84, 3) := by decide +kernel
theorem dX6_leave_59 : decode cX6_leave 59 = .ok (.checkcast 88, 3) := by decide +kernel
theorem dX6_leave_62 : decode cX6_leave 62 = .ok (.astore 5, 2) := by decide +kernel
theorem dX6_leave_64 : decode cX6_leave 64 = .ok (.aload 5, 2) := by decide +kernel
theorem dX6_leave_66 : decode cX6_leave 66 = .ok (.getfield 90, 3) := by decide +kernel
theorem dX6_leave_69 : decode cX6_leave 69 = .ok (.ifCond .ne 20, 3) := by decide +kernel
theorem dX6_leave_72 : decode cX6_leave 72 = .ok (.aload 5, 2) := by decide +kernel
theorem dX6_leave_74 : decode cX6_leave 74 = .ok (.iload_n 1, 1) := by decide +kernel
theorem dX6_leave_75 : decode cX6_leave 75 = .ok (.iconst 0, 1) := by decide +kernel
theorem dX6_leave_76 : decode cX6_leave 76 = .ok (.invokevirtual 93, 3) := by decide +kernel
theorem dX6_leave_79 : decode cX6_leave 79 = .ok (.aload 5, 2) := by decide +kernel
theorem dX6_leave_81 : decode cX6_leave 81 = .ok (.iload_n 3, 1) := by decide +kernel
theorem dX6_leave_82 : decode cX6_leave 82 = .ok (.aload_n 0, 1) := by decide +kernel
theorem dX6_leave_83 : decode cX6_leave 83 = .ok (.getfield 25, 3) := by decide +kernel
theorem dX6_leave_86 : decode cX6_leave 86 = .ok (.invokevirtual 97, 3) := by decide +kernel
theorem dX6_leave_89 : decode cX6_leave 89 = .ok (.iinc 4 1, 3) := by decide +kernel
theorem dX6_leave_92 : decode cX6_leave 92 = .ok (.goto (-54), 3) := by decide +kernel
theorem dX6_leave_95 : decode cX6_leave 95 = .ok (.aload_n 2, 1) := by decide +kernel
theorem dX6_leave_96 : decode cX6_leave 96 = .ok (.getfield 100, 3) := by decide +kernel
theorem dX6_leave_99 : decode cX6_leave 99 = .ok (.getfield 104, 3) := by decide +kernel
theorem dX6_leave_102 : decode cX6_leave 102 = .ok (.ireturn, 1) := by decide +kernel
theorem dX6_film_0 : decode cX6_film 0 = .ok (.iload_n 1, 1) := by decide +kernel
theorem dX6_film_1 : decode cX6_film 1 = .ok (.iconst 1, 1) := by decide +kernel
theorem dX6_film_2 : decode cX6_film 2 = .ok (.if_icmp .lt 9, 3) := by decide +kernel
theorem dX6_film_5 : decode cX6_film 5 = .ok (.iload_n 1, 1) := by decide +kernel
theorem dX6_film_6 : decode cX6_film 6 = .ok (.bipush 20, 2) := by decide +kernel
theorem dX6_film_8 : decode cX6_film 8 = .ok (.if_icmp .le 13, 3) := by decide +kernel
theorem dX6_film_11 : decode cX6_film 11 = .ok (.new 32, 3) := by decide +kernel
theorem dX6_film_14 : decode cX6_film 14 = .ok (.dup, 1) := by decide +kernel
theorem dX6_film_15 : decode cX6_film 15 = .ok (.ldc 109, 2) := by decide +kernel
theorem dX6_film_17 : decode cX6_film 17 = .ok (.invokespecial 36, 3) := by decide +kernel
theorem dX6_film_20 : decode cX6_film 20 = .ok (.athrow, 1) := by decide +kernel
theorem dX6_film_21 : decode cX6_film 21 = .ok (.aload_n 0, 1) := by decide +kernel
theorem dX6_film_22 : decode cX6_film 22 = .ok (.getfield 16, 3) := by decide +kernel
theorem dX6_film_25 : decode cX6_film 25 = .ok (.invokevirtual 41, 3) := by decide +kernel
theorem dX6_film_28 : decode cX6_film 28 = .ok (.bipush 20, 2) := by decide +kernel
theorem dX6_film_30 : decode cX6_film 30 = .ok (.if_icmp .lt 13, 3) := by decide +kernel
theorem dX6_film_33 : decode cX6_film 33 = .ok (.new 45, 3) := by decide +kernel
theorem dX6_film_36 : decode cX6_film 36 = .ok (.dup, 1) := by decide +kernel
theorem dX6_film_37 : decode cX6_film 37 = .ok (.ldc 111, 2) := by decide +kernel
theorem dX6_film_39 : decode cX6_film 39 = .ok (.invokespecial 49, 3) := by decide +kernel
theorem dX6_film_42 : decode cX6_film 42 = .ok (.athrow, 1) := by decide +kernel
theorem dX6_film_43 : decode cX6_film 43 = .ok (.aload_n 0, 1) := by decide +kernel
theorem dX6_film_44 : decode cX6_film 44 = .ok (.getfield 16, 3) := by decide +kernel
theorem dX6_film_47 : decode cX6_film 47 = .ok (.new 113, 3) := by decide +kernel
theorem dX6_film_50 : decode cX6_film 50 = .ok (.dup, 1) := by decide +kernel
theorem dX6_film_51 : decode cX6_film 51 = .ok (.iload_n 1, 1) := by decide +kernel
theorem dX6_film_52 : decode cX6_film 52 = .ok (.invokespecial 115, 3) := by decide +kernel
theorem dX6_film_55 : decode cX6_film 55 = .ok (.invokevirtual 55, 3) := by decide +kernel
theorem dX6_film_58 : decode cX6_film 58 = .ok (.pop, 1) := by decide +kernel
theorem dX6_film_59 : decode cX6_film 59 = .ok (.aload_n 0, 1) := by decide +kernel
theorem dX6_film_60 : decode cX6_film 60 = .ok (.getfield 16, 3) := by decide +kernel
theorem dX6_film_63 : decode cX6_film 63 = .ok (.invokevirtual 41, 3) := by decide +kernel
theorem dX6_film_66 : decode cX6_film 66 = .ok (.iconst 1, 1) := by decide +kernel
theorem dX6_film_67 : decode cX6_film 67 = .ok (.isub, 1) := by decide +kernel
theorem dX6_film_68 : decode cX6_film 68 = .ok (.ireturn, 1) := by decide +kernel
theorem dX6_fetch_0 : decode cX6_fetch 0 = .ok (.aload_n 0, 1) := by decide +kernel
theorem dX6_fetch_1 : decode cX6_fetch 1 = .ok (.iload_n 2, 1) := by decide +kernel
theorem dX6_fetch_2 : decode cX6_fetch 2 = .ok (.invokevirtual 118, 3) := by decide +kernel
theorem dX6_fetch_5 : decode cX6_fetch 5 = .ok (.astore_n 3, 1) := by decide +kernel
theorem dX6_fetch_6 : decode cX6_fetch 6 = .ok (.aload_n 0, 1) := by decide +kernel
theorem dX6_fetch_7 : decode cX6_fetch 7 = .ok (.iload_n 1, 1) := by decide +kernel
theorem dX6_fetch_8 : decode cX6_fetch 8 = .ok (.invokevirtual 59, 3) := by decide +kernel
theorem dX6_fetch_11 : decode cX6_fetch 11 = .ok (.astore 4, 2) := by decide +kernel
theorem dX6_fetch_13 : decode cX6_fetch 13 = .ok (.aload_n 0, 1) := by decide +kernel
theorem dX6_fetch_14 : decode cX6_fetch 14 = .ok (.getfield 29, 3) := by decide +kernel
theorem dX6_fetch_17 : decode cX6_fetch 17 = .ok (.sipush 300, 3) := by decide +kernel
theorem dX6_fetch_20 : decode cX6_fetch 20 = .ok (.if_icmp .lt 13, 3) := by decide +kernel
theorem dX6_fetch_23 : decode cX6_fetch 23 = .ok (.new 45, 3) := by decide +kernel
theorem dX6_fetch_26 : decode cX6_fetch 26 = .ok (.dup, 1) := by decide +kernel
theorem dX6_fetch_27 : decode cX6_fetch 27 = .ok (.ldc 122, 2) := by decide +kernel
theorem dX6_fetch_29 : decode cX6_fetch 29 = .ok (.invokespecial 49, 3) := by decide +kernel
theorem dX6_fetch_32 : decode cX6_fetch 32 = .ok (.athrow, 1) := by decide +kernel
theorem dX6_fetch_33 : decode cX6_fetch 33 = .ok (.aload_n 0, 1) := by decide +kernel
theorem dX6_fetch_34 : decode cX6_fetch 34 = .ok (.aload 4, 2) := by decide +kernel
theorem dX6_fetch_36 : decode cX6_fetch 36 = .ok (.iload_n 2, 1) := by decide +kernel
theorem dX6_fetch_37 : decode cX6_fetch 37 = .ok (.aload_n 3, 1) := by decide +kernel
theorem dX6_fetch_38 : decode cX6_fetch 38 = .ok (.getfield 124, 3) := by decide +kernel
theorem dX6_fetch_41 : decode cX6_fetch 41 = .ok (.invokevirtual 126, 3) := by decide +kernel
theorem dX6_fetch_44 : decode cX6_fetch 44 = .ok (.astore 5, 2) := by decide +kernel
theorem dX6_fetch_46 : decode cX6_fetch 46 = .ok (.aload_n 0, 1) := by decide +kernel
theorem dX6_fetch_47 : decode cX6_fetch 47 = .ok (.aload 5, 2) := by decide +kernel
theorem dX6_fetch_49 : decode cX6_fetch 49 = .ok (.getfield 130, 3) := by decide +kernel
theorem dX6_fetch_52 : decode cX6_fetch 52 = .ok (.invokevirtual 134, 3) := by decide +kernel
theorem dX6_fetch_55 : decode cX6_fetch 55 = .ok (.aload_n 0, 1) := by decide +kernel
theorem dX6_fetch_56 : decode cX6_fetch 56 = .ok (.aload 5, 2) := by decide +kernel
theorem dX6_fetch_58 : decode cX6_fetch 58 = .ok (.invokevirtual 77, 3) := by decide +kernel
theorem dX6_fetch_61 : decode cX6_fetch 61 = .ok (.aload_n 0, 1) := by decide +kernel
theorem dX6_fetch_62 : decode cX6_fetch 62 = .ok (.dup, 1) := by decide +kernel
theorem dX6_fetch_63 : decode cX6_fetch 63 = .ok (.getfield 29, 3) := by decide +kernel
theorem dX6_fetch_66 : decode cX6_fetch 66 = .ok (.iconst 1, 1) := by decide +kernel
theorem dX6_fetch_67 : decode cX6_fetch 67 = .ok (.iadd, 1) := by decide +kernel
theorem dX6_fetch_68 : decode cX6_fetch 68 = .ok (.putfield 29, 3) := by decide +kernel
theorem dX6_fetch_71 : decode cX6_fetch 71 = .ok (.aload 4, 2) := by decide +kernel
theorem dX6_fetch_73 : decode cX6_fetch 73 = .ok (.dup, 1) := by decide +kernel
theorem dX6_fetch_74 : decode cX6_fetch 74 = .ok (.getfield 138, 3) := by decide +kernel
theorem dX6_fetch_77 : decode cX6_fetch 77 = .ok (.iconst 1, 1) := by decide +kernel
theorem dX6_fetch_78 : decode cX6_fetch 78 = .ok (.iadd, 1) := by decide +kernel
theorem dX6_fetch_79 : decode cX6_fetch 79 = .ok (.putfield 138, 3) := by decide +kernel
theorem dX6_fetch_82 : decode cX6_fetch 82 = .ok (.aload_n 3, 1) := by decide +kernel
theorem dX6_fetch_83 : decode cX6_fetch 83 = .ok (.dup, 1) := by decide +kernel
theorem dX6_fetch_84 : decode cX6_fetch 84 = .ok (.getfield 139, 3) := by decide +kernel
theorem dX6_fetch_87 : decode cX6_fetch 87 = .ok (.iconst 1, 1) := by decide +kernel
theorem dX6_fetch_88 : decode cX6_fetch 88 = .ok (.iadd, 1) := by decide +kernel
theorem dX6_fetch_89 : decode cX6_fetch 89 = .ok (.putfield 139, 3) := by decide +kernel
theorem dX6_fetch_92 : decode cX6_fetch 92 = .ok (.aload 5, 2) := by decide +kernel
theorem dX6_fetch_94 : decode cX6_fetch 94 = .ok (.getfield 142, 3) := by decide +kernel
theorem dX6_fetch_97 : decode cX6_fetch 97 = .ok (.getstatic 145, 3) := by decide +kernel
theorem dX6_fetch_100 : decode cX6_fetch 100 = .ok (.if_acmp .ne 11, 3) := by decide +kernel
theorem dX6_fetch_103 : decode cX6_fetch 103 = .ok (.aload_n 0, 1) := by decide +kernel
theorem dX6_fetch_104 : decode cX6_fetch 104 = .ok (.aload 4, 2) := by decide +kernel
theorem dX6_fetch_106 : decode cX6_fetch 106 = .ok (.iload_n 2, 1) := by decide +kernel
theorem dX6_fetch_107 : decode cX6_fetch 107 = .ok (.aload_n 3, 1) := by decide +kernel
theorem dX6_fetch_108 : decode cX6_fetch 108 = .ok (.invokevirtual 148, 3) := by decide +kernel
theorem dX6_fetch_111 : decode cX6_fetch 111 = .ok (.aload_n 0, 1) := by decide +kernel
theorem dX6_fetch_112 : decode cX6_fetch 112 = .ok (.aload 5, 2) := by decide +kernel
theorem dX6_fetch_114 : decode cX6_fetch 114 = .ok (.invokevirtual 152, 3) := by decide +kernel
theorem dX6_fetch_117 : decode cX6_fetch 117 = .ok (.ireturn, 1) := by decide +kernel
theorem dX6_pass_0 : decode cX6_pass 0 = .ok (.iload_n 1, 1) := by decide +kernel
theorem dX6_pass_1 : decode cX6_pass 1 = .ok (.iconst 1, 1) := by decide +kernel
theorem dX6_pass_2 : decode cX6_pass 2 = .ok (.if_icmp .lt 9, 3) := by decide +kernel
theorem dX6_pass_5 : decode cX6_pass 5 = .ok (.iload_n 1, 1) := by decide +kernel
theorem dX6_pass_6 : decode cX6_pass 6 = .ok (.bipush 100, 2) := by decide +kernel
theorem dX6_pass_8 : decode cX6_pass 8 = .ok (.if_icmp .le 13, 3) := by decide +kernel
theorem dX6_pass_11 : decode cX6_pass 11 = .ok (.new 32, 3) := by decide +kernel
theorem dX6_pass_14 : decode cX6_pass 14 = .ok (.dup, 1) := by decide +kernel
theorem dX6_pass_15 : decode cX6_pass 15 = .ok (.ldc 156, 2) := by decide +kernel
theorem dX6_pass_17 : decode cX6_pass 17 = .ok (.invokespecial 36, 3) := by decide +kernel
theorem dX6_pass_20 : decode cX6_pass 20 = .ok (.athrow, 1) := by decide +kernel
theorem dX6_pass_21 : decode cX6_pass 21 = .ok (.aload_n 0, 1) := by decide +kernel
theorem dX6_pass_22 : decode cX6_pass 22 = .ok (.getfield 25, 3) := by decide +kernel
theorem dX6_pass_25 : decode cX6_pass 25 = .ok (.iload_n 1, 1) := by decide +kernel
theorem dX6_pass_26 : decode cX6_pass 26 = .ok (.iadd, 1) := by decide +kernel
theorem dX6_pass_27 : decode cX6_pass 27 = .ok (.sipush 2000, 3) := by decide +kernel
theorem dX6_pass_30 : decode cX6_pass 30 = .ok (.if_icmp .le 13, 3) := by decide +kernel
theorem dX6_pass_33 : decode cX6_pass 33 = .ok (.new 45, 3) := by decide +kernel
theorem dX6_pass_36 : decode cX6_pass 36 = .ok (.dup, 1) := by decide +kernel
theorem dX6_pass_37 : decode cX6_pass 37 = .ok (.ldc 158, 2) := by decide +kernel
theorem dX6_pass_39 : decode cX6_pass 39 = .ok (.invokespecial 49, 3) := by decide +kernel
theorem dX6_pass_42 : decode cX6_pass 42 = .ok (.athrow, 1) := by decide +kernel
theorem dX6_pass_43 : decode cX6_pass 43 = .ok (.aload_n 0, 1) := by decide +kernel
theorem dX6_pass_44 : decode cX6_pass 44 = .ok (.dup, 1) := by decide +kernel
theorem dX6_pass_45 : decode cX6_pass 45 = .ok (.getfield 25, 3) := by decide +kernel
theorem dX6_pass_48 : decode cX6_pass 48 = .ok (.iload_n 1, 1) := by decide +kernel
theorem dX6_pass_49 : decode cX6_pass 49 = .ok (.iadd, 1) := by decide +kernel
theorem dX6_pass_50 : decode cX6_pass 50 = .ok (.putfield 25, 3) := by decide +kernel
theorem dX6_pass_53 : decode cX6_pass 53 = .ok (.iconst 0, 1) := by decide +kernel
theorem dX6_pass_54 : decode cX6_pass 54 = .ok (.istore_n 2, 1) := by decide +kernel
theorem dX6_pass_55 : decode cX6_pass 55 = .ok (.iload_n 2, 1) := by decide +kernel
theorem dX6_pass_56 : decode cX6_pass 56 = .ok (.aload_n 0, 1) := by decide +kernel
theorem dX6_pass_57 : decode cX6_pass 57 = .ok (.getfield 10, 3) := by decide +kernel
theorem dX6_pass_60 : decode cX6_pass 60 = .ok (.invokevirtual 41, 3) := by decide +kernel
theorem dX6_pass_63 : decode cX6_pass 63 = .ok (.if_icmp .ge 23, 3) := by decide +kernel
theorem dX6_pass_66 : decode cX6_pass 66 = .ok (.aload_n 0, 1) := by decide +kernel
theorem dX6_pass_67 : decode cX6_pass 67 = .ok (.getfield 10, 3) := by decide +kernel
theorem dX6_pass_70 : decode cX6_pass 70 = .ok (.iload_n 2, 1) := by decide +kernel
theorem dX6_pass_71 : decode cX6_pass 71 = .ok (.invokevirtual 84, 3) := by decide +kernel
theorem dX6_pass_74 : decode cX6_pass 74 = .ok (.checkcast 50, 3) := by decide +kernel
theorem dX6_pass_77 : decode cX6_pass 77 = .ok (.invokevirtual 160, 3) := by decide +kernel
theorem dX6_pass_80 : decode cX6_pass 80 = .ok (.iinc 2 1, 3) := by decide +kernel
theorem dX6_pass_83 : decode cX6_pass 83 = .ok (.goto (-28), 3) := by decide +kernel
theorem dX6_pass_86 : decode cX6_pass 86 = .ok (.aload_n 0, 1) := by decide +kernel
theorem dX6_pass_87 : decode cX6_pass 87 = .ok (.getfield 25, 3) := by decide +kernel
theorem dX6_pass_90 : decode cX6_pass 90 = .ok (.ireturn, 1) := by decide +kernel
theorem dX6_propose_0 : decode cX6_propose 0 = .ok (.aload_n 0, 1) := by decide +kernel
theorem dX6_propose_1 : decode cX6_propose 1 = .ok (.iload_n 1, 1) := by decide +kernel
theorem dX6_propose_2 : decode cX6_propose 2 = .ok (.invokevirtual 163, 3) := by decide +kernel
theorem dX6_propose_5 : decode cX6_propose 5 = .ok (.pop, 1) := by decide +kernel
theorem dX6_propose_6 : decode cX6_propose 6 = .ok (.aload_n 0, 1) := by decide +kernel
theorem dX6_propose_7 : decode cX6_propose 7 = .ok (.iload_n 2, 1) := by decide +kernel
theorem dX6_propose_8 : decode cX6_propose 8 = .ok (.invokevirtual 166, 3) := by decide +kernel
theorem dX6_propose_11 : decode cX6_propose 11 = .ok (.iload_n 3, 1) := by decide +kernel
theorem dX6_propose_12 : decode cX6_propose 12 = .ok (.ifCond .lt 9, 3) := by decide +kernel
theorem dX6_propose_15 : decode cX6_propose 15 = .ok (.iload_n 3, 1) := by decide +kernel
theorem dX6_propose_16 : decode cX6_propose 16 = .ok (.bipush 9, 2) := by decide +kernel
theorem dX6_propose_18 : decode cX6_propose 18 = .ok (.if_icmp .le 13, 3) := by decide +kernel
theorem dX6_propose_21 : decode cX6_propose 21 = .ok (.new 32, 3) := by decide +kernel
theorem dX6_propose_24 : decode cX6_propose 24 = .ok (.dup, 1) := by decide +kernel
theorem dX6_propose_25 : decode cX6_propose 25 = .ok (.ldc 169, 2) := by decide +kernel
theorem dX6_propose_27 : decode cX6_propose 27 = .ok (.invokespecial 36, 3) := by decide +kernel
theorem dX6_propose_30 : decode cX6_propose 30 = .ok (.athrow, 1) := by decide +kernel
theorem dX6_propose_31 : decode cX6_propose 31 = .ok (.aload_n 0, 1) := by decide +kernel
theorem dX6_propose_32 : decode cX6_propose 32 = .ok (.iload_n 1, 1) := by decide +kernel
theorem dX6_propose_33 : decode cX6_propose 33 = .ok (.invokevirtual 59, 3) := by decide +kernel
theorem dX6_propose_36 : decode cX6_propose 36 = .ok (.pop, 1) := by decide +kernel
theorem dX6_propose_37 : decode cX6_propose 37 = .ok (.aload_n 0, 1) := by decide +kernel
theorem dX6_propose_38 : decode cX6_propose 38 = .ok (.getfield 19, 3) := by decide +kernel
theorem dX6_propose_41 : decode cX6_propose 41 = .ok (.invokevirtual 41, 3) := by decide +kernel
theorem dX6_propose_44 : decode cX6_propose 44 = .ok (.bipush 30, 2) := by decide +kernel
theorem dX6_propose_46 : decode cX6_propose 46 = .ok (.if_icmp .lt 13, 3) := by decide +kernel
theorem dX6_propose_49 : decode cX6_propose 49 = .ok (.new 45, 3) := by decide +kernel
theorem dX6_propose_52 : decode cX6_propose 52 = .ok (.dup, 1) := by decide +kernel
theorem dX6_propose_53 : decode cX6_propose 53 = .ok (.ldc 171, 2) := by decide +kernel
theorem dX6_propose_55 : decode cX6_propose 55 = .ok (.invokespecial 49, 3) := by decide +kernel
theorem dX6_propose_58 : decode cX6_propose 58 = .ok (.athrow, 1) := by decide +kernel
theorem dX6_propose_59 : decode cX6_propose 59 = .ok (.aload_n 0, 1) := by decide +kernel
theorem dX6_propose_60 : decode cX6_propose 60 = .ok (.getfield 19, 3) := by decide +kernel
theorem dX6_propose_63 : decode cX6_propose 63 = .ok (.new 88, 3) := by decide +kernel
theorem dX6_propose_66 : decode cX6_propose 66 = .ok (.dup, 1) := by decide +kernel
theorem dX6_propose_67 : decode cX6_propose 67 = .ok (.iload_n 2, 1) := by decide +kernel
theorem dX6_propose_68 : decode cX6_propose 68 = .ok (.iload_n 3, 1) := by decide +kernel
theorem dX6_propose_69 : decode cX6_propose 69 = .ok (.invokespecial 173, 3) := by decide +kernel
theorem dX6_propose_72 : decode cX6_propose 72 = .ok (.invokevirtual 55, 3) := by decide +kernel
theorem dX6_propose_75 : decode cX6_propose 75 = .ok (.pop, 1) := by decide +kernel
theorem dX6_propose_76 : decode cX6_propose 76 = .ok (.aload_n 0, 1) := by decide +kernel
theorem dX6_propose_77 : decode cX6_propose 77 = .ok (.getfield 19, 3) := by decide +kernel
theorem dX6_propose_80 : decode cX6_propose 80 = .ok (.invokevirtual 41, 3) := by decide +kernel
theorem dX6_propose_83 : decode cX6_propose 83 = .ok (.iconst 1, 1) := by decide +kernel
theorem dX6_propose_84 : decode cX6_propose 84 = .ok (.isub, 1) := by decide +kernel
theorem dX6_propose_85 : decode cX6_propose 85 = .ok (.ireturn, 1) := by decide +kernel
theorem dX6_vote_0 : decode cX6_vote 0 = .ok (.aload_n 0, 1) := by decide +kernel
theorem dX6_vote_1 : decode cX6_vote 1 = .ok (.iload_n 2, 1) := by decide +kernel
theorem dX6_vote_2 : decode cX6_vote 2 = .ok (.invokevirtual 175, 3) := by decide +kernel
theorem dX6_vote_5 : decode cX6_vote 5 = .ok (.astore 4, 2) := by decide +kernel
theorem dX6_vote_7 : decode cX6_vote 7 = .ok (.aload_n 0, 1) := by decide +kernel
theorem dX6_vote_8 : decode cX6_vote 8 = .ok (.iload_n 1, 1) := by decide +kernel
theorem dX6_vote_9 : decode cX6_vote 9 = .ok (.invokevirtual 59, 3) := by decide +kernel
theorem dX6_vote_12 : decode cX6_vote 12 = .ok (.pop, 1) := by decide +kernel
theorem dX6_vote_13 : decode cX6_vote 13 = .ok (.aload 4, 2) := by decide +kernel
theorem dX6_vote_15 : decode cX6_vote 15 = .ok (.getfield 90, 3) := by decide +kernel
theorem dX6_vote_18 : decode cX6_vote 18 = .ok (.ifCond .eq 13, 3) := by decide +kernel
theorem dX6_vote_21 : decode cX6_vote 21 = .ok (.new 45, 3) := by decide +kernel
theorem dX6_vote_24 : decode cX6_vote 24 = .ok (.dup, 1) := by decide +kernel
theorem dX6_vote_25 : decode cX6_vote 25 = .ok (.ldc 179, 2) := by decide +kernel
theorem dX6_vote_27 : decode cX6_vote 27 = .ok (.invokespecial 49, 3) := by decide +kernel
theorem dX6_vote_30 : decode cX6_vote 30 = .ok (.athrow, 1) := by decide +kernel
theorem dX6_vote_31 : decode cX6_vote 31 = .ok (.aload 4, 2) := by decide +kernel
theorem dX6_vote_33 : decode cX6_vote 33 = .ok (.iload_n 1, 1) := by decide +kernel
theorem dX6_vote_34 : decode cX6_vote 34 = .ok (.iload_n 3, 1) := by decide +kernel
theorem dX6_vote_35 : decode cX6_vote 35 = .ok (.ifCond .eq 7, 3) := by decide +kernel
theorem dX6_vote_38 : decode cX6_vote 38 = .ok (.iconst 1, 1) := by decide +kernel
theorem dX6_vote_39 : decode cX6_vote 39 = .ok (.goto 4, 3) := by decide +kernel
theorem dX6_vote_42 : decode cX6_vote 42 = .ok (.iconst 2, 1) := by decide +kernel
theorem dX6_vote_43 : decode cX6_vote 43 = .ok (.invokevirtual 93, 3) := by decide +kernel
theorem dX6_vote_46 : decode cX6_vote 46 = .ok (.aload 4, 2) := by decide +kernel
theorem dX6_vote_48 : decode cX6_vote 48 = .ok (.aload_n 0, 1) := by decide +kernel
theorem dX6_vote_49 : decode cX6_vote 49 = .ok (.invokevirtual 81, 3) := by decide +kernel
theorem dX6_vote_52 : decode cX6_vote 52 = .ok (.aload_n 0, 1) := by decide +kernel
theorem dX6_vote_53 : decode cX6_vote 53 = .ok (.getfield 25, 3) := by decide +kernel
theorem dX6_vote_56 : decode cX6_vote 56 = .ok (.invokevirtual 97, 3) := by decide +kernel
theorem dX6_vote_59 : decode cX6_vote 59 = .ok (.aload 4, 2) := by decide +kernel
theorem dX6_vote_61 : decode cX6_vote 61 = .ok (.getfield 90, 3) := by decide +kernel
theorem dX6_vote_64 : decode cX6_vote 64 = .ok (.ireturn, 1) := by decide +kernel
theorem dX6_rule_0 : decode cX6_rule 0 = .ok (.aload_n 0, 1) := by decide +kernel
theorem dX6_rule_1 : decode cX6_rule 1 = .ok (.iload_n 1, 1) := by decide +kernel
theorem dX6_rule_2 : decode cX6_rule 2 = .ok (.invokevirtual 166, 3) := by decide +kernel
theorem dX6_rule_5 : decode cX6_rule 5 = .ok (.aload_n 0, 1) := by decide +kernel
theorem dX6_rule_6 : decode cX6_rule 6 = .ok (.iload_n 1, 1) := by decide +kernel
theorem dX6_rule_7 : decode cX6_rule 7 = .ok (.aload_n 0, 1) := by decide +kernel
theorem dX6_rule_8 : decode cX6_rule 8 = .ok (.getfield 25, 3) := by decide +kernel
theorem dX6_rule_11 : decode cX6_rule 11 = .ok (.invokevirtual 181, 3) := by decide +kernel
theorem dX6_rule_14 : decode cX6_rule 14 = .ok (.ireturn, 1) := by decide +kernel
theorem dX6_proposal_0 : decode cX6_proposal 0 = .ok (.aload_n 0, 1) := by decide +kernel
theorem dX6_proposal_1 : decode cX6_proposal 1 = .ok (.iload_n 1, 1) := by decide +kernel
theorem dX6_proposal_2 : decode cX6_proposal 2 = .ok (.invokevirtual 175, 3) := by decide +kernel
theorem dX6_proposal_5 : decode cX6_proposal 5 = .ok (.astore_n 3, 1) := by decide +kernel
theorem dX6_proposal_6 : decode cX6_proposal 6 = .ok (.aload_n 0, 1) := by decide +kernel
theorem dX6_proposal_7 : decode cX6_proposal 7 = .ok (.iload_n 2, 1) := by decide +kernel
theorem dX6_proposal_8 : decode cX6_proposal 8 = .ok (.invokevirtual 185, 3) := by decide +kernel
theorem dX6_proposal_11 : decode cX6_proposal 11 = .ok (.iload_n 2, 1) := by decide +kernel
theorem dX6_proposal_12 : decode cX6_proposal 12 = .ok (.tableswitch 53 0 3 #[32, 37, 42, 47], 32) := by decide +kernel
theorem dX6_proposal_44 : decode cX6_proposal 44 = .ok (.aload_n 3, 1) := by decide +kernel
theorem dX6_proposal_45 : decode cX6_proposal 45 = .ok (.getfield 90, 3) := by decide +kernel
theorem dX6_proposal_48 : decode cX6_proposal 48 = .ok (.ireturn, 1) := by decide +kernel
theorem dX6_proposal_49 : decode cX6_proposal 49 = .ok (.aload_n 3, 1) := by decide +kernel
theorem dX6_proposal_50 : decode cX6_proposal 50 = .ok (.getfield 188, 3) := by decide +kernel
theorem dX6_proposal_53 : decode cX6_proposal 53 = .ok (.ireturn, 1) := by decide +kernel
theorem dX6_proposal_54 : decode cX6_proposal 54 = .ok (.aload_n 3, 1) := by decide +kernel
theorem dX6_proposal_55 : decode cX6_proposal 55 = .ok (.getfield 191, 3) := by decide +kernel
theorem dX6_proposal_58 : decode cX6_proposal 58 = .ok (.ireturn, 1) := by decide +kernel
theorem dX6_proposal_59 : decode cX6_proposal 59 = .ok (.aload_n 3, 1) := by decide +kernel
theorem dX6_proposal_60 : decode cX6_proposal 60 = .ok (.iconst 1, 1) := by decide +kernel
theorem dX6_proposal_61 : decode cX6_proposal 61 = .ok (.invokevirtual 194, 3) := by decide +kernel
theorem dX6_proposal_64 : decode cX6_proposal 64 = .ok (.ireturn, 1) := by decide +kernel
theorem dX6_proposal_65 : decode cX6_proposal 65 = .ok (.aload_n 3, 1) := by decide +kernel
theorem dX6_proposal_66 : decode cX6_proposal 66 = .ok (.iconst 2, 1) := by decide +kernel
theorem dX6_proposal_67 : decode cX6_proposal 67 = .ok (.invokevirtual 194, 3) := by decide +kernel
theorem dX6_proposal_70 : decode cX6_proposal 70 = .ok (.ireturn, 1) := by decide +kernel
theorem dX6_hour_0 : decode cX6_hour 0 = .ok (.aload_n 0, 1) := by decide +kernel
theorem dX6_hour_1 : decode cX6_hour 1 = .ok (.getfield 25, 3) := by decide +kernel
theorem dX6_hour_4 : decode cX6_hour 4 = .ok (.ireturn, 1) := by decide +kernel
theorem dX6_member_0 : decode cX6_member 0 = .ok (.aload_n 0, 1) := by decide +kernel
theorem dX6_member_1 : decode cX6_member 1 = .ok (.iload_n 1, 1) := by decide +kernel
theorem dX6_member_2 : decode cX6_member 2 = .ok (.invokevirtual 163, 3) := by decide +kernel
theorem dX6_member_5 : decode cX6_member 5 = .ok (.astore_n 3, 1) := by decide +kernel
theorem dX6_member_6 : decode cX6_member 6 = .ok (.aload_n 0, 1) := by decide +kernel
theorem dX6_member_7 : decode cX6_member 7 = .ok (.iload_n 2, 1) := by decide +kernel
theorem dX6_member_8 : decode cX6_member 8 = .ok (.invokevirtual 185, 3) := by decide +kernel
theorem dX6_member_11 : decode cX6_member 11 = .ok (.iload_n 2, 1) := by decide +kernel
theorem dX6_member_12 : decode cX6_member 12 = .ok (.tableswitch 65 0 3 #[32, 45, 50, 57], 32) := by decide +kernel
theorem dX6_member_44 : decode cX6_member 44 = .ok (.aload_n 3, 1) := by decide +kernel
theorem dX6_member_45 : decode cX6_member 45 = .ok (.getfield 198, 3) := by decide +kernel
theorem dX6_member_48 : decode cX6_member 48 = .ok (.ifCond .eq 7, 3) := by decide +kernel
theorem dX6_member_51 : decode cX6_member 51 = .ok (.iconst 1, 1) := by decide +kernel
theorem dX6_member_52 : decode cX6_member 52 = .ok (.goto 4, 3) := by decide +kernel
theorem dX6_member_55 : decode cX6_member 55 = .ok (.iconst 0, 1) := by decide +kernel
theorem dX6_member_56 : decode cX6_member 56 = .ok (.ireturn, 1) := by decide +kernel
theorem dX6_member_57 : decode cX6_member 57 = .ok (.aload_n 3, 1) := by decide +kernel
theorem dX6_member_58 : decode cX6_member 58 = .ok (.getfield 202, 3) := by decide +kernel
theorem dX6_member_61 : decode cX6_member 61 = .ok (.ireturn, 1) := by decide +kernel
theorem dX6_member_62 : decode cX6_member 62 = .ok (.aload_n 0, 1) := by decide +kernel
theorem dX6_member_63 : decode cX6_member 63 = .ok (.aload_n 3, 1) := by decide +kernel
theorem dX6_member_64 : decode cX6_member 64 = .ok (.iconst 0, 1) := by decide +kernel
theorem dX6_member_65 : decode cX6_member 65 = .ok (.invokevirtual 205, 3) := by decide +kernel
theorem dX6_member_68 : decode cX6_member 68 = .ok (.ireturn, 1) := by decide +kernel
theorem dX6_member_69 : decode cX6_member 69 = .ok (.aload_n 3, 1) := by decide +kernel
theorem dX6_member_70 : decode cX6_member 70 = .ok (.getfield 100, 3) := by decide +kernel
theorem dX6_member_73 : decode cX6_member 73 = .ok (.getfield 104, 3) := by decide +kernel
theorem dX6_member_76 : decode cX6_member 76 = .ok (.ireturn, 1) := by decide +kernel
theorem dX6_member_77 : decode cX6_member 77 = .ok (.aload_n 3, 1) := by decide +kernel
theorem dX6_member_78 : decode cX6_member 78 = .ok (.getfield 138, 3) := by decide +kernel
theorem dX6_member_81 : decode cX6_member 81 = .ok (.ireturn, 1) := by decide +kernel
theorem dX6_has_0 : decode cX6_has 0 = .ok (.aload_n 0, 1) := by decide +kernel
theorem dX6_has_1 : decode cX6_has 1 = .ok (.iload_n 1, 1) := by decide +kernel
theorem dX6_has_2 : decode cX6_has 2 = .ok (.invokevirtual 163, 3) := by decide +kernel
theorem dX6_has_5 : decode cX6_has 5 = .ok (.astore_n 3, 1) := by decide +kernel
theorem dX6_has_6 : decode cX6_has 6 = .ok (.aload_n 0, 1) := by decide +kernel
theorem dX6_has_7 : decode cX6_has 7 = .ok (.iload_n 2, 1) := by decide +kernel
theorem dX6_has_8 : decode cX6_has 8 = .ok (.invokevirtual 118, 3) := by decide +kernel
theorem dX6_has_11 : decode cX6_has 11 = .ok (.pop, 1) := by decide +kernel
theorem dX6_has_12 : decode cX6_has 12 = .ok (.aload_n 3, 1) := by decide +kernel
theorem dX6_has_13 : decode cX6_has 13 = .ok (.iload_n 2, 1) := by decide +kernel
theorem dX6_has_14 : decode cX6_has 14 = .ok (.invokevirtual 209, 3) := by decide +kernel
theorem dX6_has_17 : decode cX6_has 17 = .ok (.ireturn, 1) := by decide +kernel
theorem dX6_owes_0 : decode cX6_owes 0 = .ok (.aload_n 0, 1) := by decide +kernel
theorem dX6_owes_1 : decode cX6_owes 1 = .ok (.iload_n 1, 1) := by decide +kernel
theorem dX6_owes_2 : decode cX6_owes 2 = .ok (.invokevirtual 163, 3) := by decide +kernel
theorem dX6_owes_5 : decode cX6_owes 5 = .ok (.astore_n 3, 1) := by decide +kernel
theorem dX6_owes_6 : decode cX6_owes 6 = .ok (.aload_n 0, 1) := by decide +kernel
theorem dX6_owes_7 : decode cX6_owes 7 = .ok (.iload_n 2, 1) := by decide +kernel
theorem dX6_owes_8 : decode cX6_owes 8 = .ok (.invokevirtual 163, 3) := by decide +kernel
theorem dX6_owes_11 : decode cX6_owes 11 = .ok (.pop, 1) := by decide +kernel
theorem dX6_owes_12 : decode cX6_owes 12 = .ok (.aload_n 3, 1) := by decide +kernel
theorem dX6_owes_13 : decode cX6_owes 13 = .ok (.getfield 100, 3) := by decide +kernel
theorem dX6_owes_16 : decode cX6_owes 16 = .ok (.iload_n 2, 1) := by decide +kernel
theorem dX6_owes_17 : decode cX6_owes 17 = .ok (.invokevirtual 213, 3) := by decide +kernel
theorem dX6_owes_20 : decode cX6_owes 20 = .ok (.iconst 0, 1) := by decide +kernel
theorem dX6_owes_21 : decode cX6_owes 21 = .ok (.invokestatic 216, 3) := by decide +kernel
theorem dX6_owes_24 : decode cX6_owes 24 = .ok (.ireturn, 1) := by decide +kernel
theorem dX6_worth_0 : decode cX6_worth 0 = .ok (.aload_n 0, 1) := by decide +kernel
theorem dX6_worth_1 : decode cX6_worth 1 = .ok (.iload_n 1, 1) := by decide +kernel
theorem dX6_worth_2 : decode cX6_worth 2 = .ok (.invokevirtual 118, 3) := by decide +kernel
theorem dX6_worth_5 : decode cX6_worth 5 = .ok (.getfield 139, 3) := by decide +kernel
theorem dX6_worth_8 : decode cX6_worth 8 = .ok (.ireturn, 1) := by decide +kernel
theorem dX6_accountAnew_0 : decode cX6_accountAnew 0 = .ok (.aload_n 0, 1) := by decide +kernel
theorem dX6_accountAnew_1 : decode cX6_accountAnew 1 = .ok (.iload_n 1, 1) := by decide +kernel
theorem dX6_accountAnew_2 : decode cX6_accountAnew 2 = .ok (.invokevirtual 163, 3) := by decide +kernel
theorem dX6_accountAnew_5 : decode cX6_accountAnew 5 = .ok (.pop, 1) := by decide +kernel
theorem dX6_accountAnew_6 : decode cX6_accountAnew 6 = .ok (.aload_n 0, 1) := by decide +kernel
theorem dX6_accountAnew_7 : decode cX6_accountAnew 7 = .ok (.iload_n 1, 1) := by decide +kernel
theorem dX6_accountAnew_8 : decode cX6_accountAnew 8 = .ok (.invokevirtual 221, 3) := by decide +kernel
theorem dX6_accountAnew_11 : decode cX6_accountAnew 11 = .ok (.getfield 104, 3) := by decide +kernel
theorem dX6_accountAnew_14 : decode cX6_accountAnew 14 = .ok (.ireturn, 1) := by decide +kernel
theorem dX6_owesAnew_0 : decode cX6_owesAnew 0 = .ok (.aload_n 0, 1) := by decide +kernel
theorem dX6_owesAnew_1 : decode cX6_owesAnew 1 = .ok (.iload_n 1, 1) := by decide +kernel
theorem dX6_owesAnew_2 : decode cX6_owesAnew 2 = .ok (.invokevirtual 163, 3) := by decide +kernel
theorem dX6_owesAnew_5 : decode cX6_owesAnew 5 = .ok (.pop, 1) := by decide +kernel
theorem dX6_owesAnew_6 : decode cX6_owesAnew 6 = .ok (.aload_n 0, 1) := by decide +kernel
theorem dX6_owesAnew_7 : decode cX6_owesAnew 7 = .ok (.iload_n 2, 1) := by decide +kernel
theorem dX6_owesAnew_8 : decode cX6_owesAnew 8 = .ok (.invokevirtual 163, 3) := by decide +kernel
theorem dX6_owesAnew_11 : decode cX6_owesAnew 11 = .ok (.pop, 1) := by decide +kernel
theorem dX6_owesAnew_12 : decode cX6_owesAnew 12 = .ok (.aload_n 0, 1) := by decide +kernel
theorem dX6_owesAnew_13 : decode cX6_owesAnew 13 = .ok (.iload_n 1, 1) := by decide +kernel
theorem dX6_owesAnew_14 : decode cX6_owesAnew 14 = .ok (.invokevirtual 221, 3) := by decide +kernel
theorem dX6_owesAnew_17 : decode cX6_owesAnew 17 = .ok (.iload_n 2, 1) := by decide +kernel
theorem dX6_owesAnew_18 : decode cX6_owesAnew 18 = .ok (.invokevirtual 213, 3) := by decide +kernel
theorem dX6_owesAnew_21 : decode cX6_owesAnew 21 = .ok (.iconst 0, 1) := by decide +kernel
theorem dX6_owesAnew_22 : decode cX6_owesAnew 22 = .ok (.invokestatic 216, 3) := by decide +kernel
theorem dX6_owesAnew_25 : decode cX6_owesAnew 25 = .ok (.ireturn, 1) := by decide +kernel
theorem dX6_told_0 : decode cX6_told 0 = .ok (.iload_n 1, 1) := by decide +kernel
theorem dX6_told_1 : decode cX6_told 1 = .ok (.ifCond .ge 13, 3) := by decide +kernel
theorem dX6_told_4 : decode cX6_told 4 = .ok (.new 225, 3) := by decide +kernel
theorem dX6_told_7 : decode cX6_told 7 = .ok (.dup, 1) := by decide +kernel
theorem dX6_told_8 : decode cX6_told 8 = .ok (.ldc 227, 2) := by decide +kernel
theorem dX6_told_10 : decode cX6_told 10 = .ok (.invokespecial 229, 3) := by decide +kernel
theorem dX6_told_13 : decode cX6_told 13 = .ok (.athrow, 1) := by decide +kernel
theorem dX6_told_14 : decode cX6_told 14 = .ok (.new 230, 3) := by decide +kernel
theorem dX6_told_17 : decode cX6_told 17 = .ok (.dup, 1) := by decide +kernel
theorem dX6_told_18 : decode cX6_told 18 = .ok (.invokespecial 232, 3) := by decide +kernel
theorem dX6_told_21 : decode cX6_told 21 = .ok (.astore_n 2, 1) := by decide +kernel
theorem dX6_told_22 : decode cX6_told 22 = .ok (.iconst 0, 1) := by decide +kernel
theorem dX6_told_23 : decode cX6_told 23 = .ok (.istore_n 3, 1) := by decide +kernel
theorem dX6_told_24 : decode cX6_told 24 = .ok (.iload_n 3, 1) := by decide +kernel
theorem dX6_told_25 : decode cX6_told 25 = .ok (.aload_n 0, 1) := by decide +kernel
theorem dX6_told_26 : decode cX6_told 26 = .ok (.getfield 10, 3) := by decide +kernel
theorem dX6_told_29 : decode cX6_told 29 = .ok (.invokevirtual 41, 3) := by decide +kernel
theorem dX6_told_32 : decode cX6_told 32 = .ok (.if_icmp .ge 50, 3) := by decide +kernel
theorem dX6_told_35 : decode cX6_told 35 = .ok (.aload_n 2, 1) := by decide +kernel
theorem dX6_told_36 : decode cX6_told 36 = .ok (.invokevirtual 233, 3) := by decide +kernel
theorem dX6_told_39 : decode cX6_told 39 = .ok (.iload_n 1, 1) := by decide +kernel
theorem dX6_told_40 : decode cX6_told 40 = .ok (.if_icmp .gt 42, 3) := by decide +kernel
theorem dX6_told_43 : decode cX6_told 43 = .ok (.aload_n 0, 1) := by decide +kernel
theorem dX6_told_44 : decode cX6_told 44 = .ok (.getfield 10, 3) := by decide +kernel
theorem dX6_told_47 : decode cX6_told 47 = .ok (.iload_n 3, 1) := by decide +kernel
theorem dX6_told_48 : decode cX6_told 48 = .ok (.invokevirtual 84, 3) := by decide +kernel
theorem dX6_told_51 : decode cX6_told 51 = .ok (.checkcast 50, 3) := by decide +kernel
theorem dX6_told_54 : decode cX6_told 54 = .ok (.getfield 198, 3) := by decide +kernel
theorem dX6_told_57 : decode cX6_told 57 = .ok (.ifCond .eq 19, 3) := by decide +kernel
theorem dX6_told_60 : decode cX6_told 60 = .ok (.aload_n 0, 1) := by decide +kernel
theorem dX6_told_61 : decode cX6_told 61 = .ok (.aload_n 0, 1) := by decide +kernel
theorem dX6_told_62 : decode cX6_told 62 = .ok (.getfield 10, 3) := by decide +kernel
theorem dX6_told_65 : decode cX6_told 65 = .ok (.iload_n 3, 1) := by decide +kernel
theorem dX6_told_66 : decode cX6_told 66 = .ok (.invokevirtual 84, 3) := by decide +kernel
theorem dX6_told_69 : decode cX6_told 69 = .ok (.checkcast 50, 3) := by decide +kernel
theorem dX6_told_72 : decode cX6_told 72 = .ok (.aload_n 2, 1) := by decide +kernel
theorem dX6_told_73 : decode cX6_told 73 = .ok (.invokevirtual 236, 3) := by decide +kernel
theorem dX6_told_76 : decode cX6_told 76 = .ok (.iinc 3 1, 3) := by decide +kernel
theorem dX6_told_79 : decode cX6_told 79 = .ok (.goto (-55), 3) := by decide +kernel
theorem dX6_told_82 : decode cX6_told 82 = .ok (.iload_n 1, 1) := by decide +kernel
theorem dX6_told_83 : decode cX6_told 83 = .ok (.aload_n 2, 1) := by decide +kernel
theorem dX6_told_84 : decode cX6_told 84 = .ok (.invokevirtual 233, 3) := by decide +kernel
theorem dX6_told_87 : decode cX6_told 87 = .ok (.if_icmp .ge 11, 3) := by decide +kernel
theorem dX6_told_90 : decode cX6_told 90 = .ok (.aload_n 2, 1) := by decide +kernel
theorem dX6_told_91 : decode cX6_told 91 = .ok (.iload_n 1, 1) := by decide +kernel
theorem dX6_told_92 : decode cX6_told 92 = .ok (.invokevirtual 240, 3) := by decide +kernel
theorem dX6_told_95 : decode cX6_told 95 = .ok (.goto 4, 3) := by decide +kernel
theorem dX6_told_98 : decode cX6_told 98 = .ok (.iconst 0, 1) := by decide +kernel
theorem dX6_told_99 : decode cX6_told 99 = .ok (.ireturn, 1) := by decide +kernel
theorem dX6_memberAt_0 : decode cX6_memberAt 0 = .ok (.iload_n 1, 1) := by decide +kernel
theorem dX6_memberAt_1 : decode cX6_memberAt 1 = .ok (.ifCond .lt 14, 3) := by decide +kernel
theorem dX6_memberAt_4 : decode cX6_memberAt 4 = .ok (.iload_n 1, 1) := by decide +kernel
theorem dX6_memberAt_5 : decode cX6_memberAt 5 = .ok (.aload_n 0, 1) := by decide +kernel
theorem dX6_memberAt_6 : decode cX6_memberAt 6 = .ok (.getfield 10, 3) := by decide +kernel
theorem dX6_memberAt_9 : decode cX6_memberAt 9 = .ok (.invokevirtual 41, 3) := by decide +kernel
theorem dX6_memberAt_12 : decode cX6_memberAt 12 = .ok (.if_icmp .lt 13, 3) := by decide +kernel
theorem dX6_memberAt_15 : decode cX6_memberAt 15 = .ok (.new 225, 3) := by decide +kernel
theorem dX6_memberAt_18 : decode cX6_memberAt 18 = .ok (.dup, 1) := by decide +kernel
theorem dX6_memberAt_19 : decode cX6_memberAt 19 = .ok (.ldc 244, 2) := by decide +kernel
theorem dX6_memberAt_21 : decode cX6_memberAt 21 = .ok (.invokespecial 229, 3) := by decide +kernel
theorem dX6_memberAt_24 : decode cX6_memberAt 24 = .ok (.athrow, 1) := by decide +kernel
theorem dX6_memberAt_25 : decode cX6_memberAt 25 = .ok (.aload_n 0, 1) := by decide +kernel
theorem dX6_memberAt_26 : decode cX6_memberAt 26 = .ok (.getfield 10, 3) := by decide +kernel
theorem dX6_memberAt_29 : decode cX6_memberAt 29 = .ok (.iload_n 1, 1) := by decide +kernel
theorem dX6_memberAt_30 : decode cX6_memberAt 30 = .ok (.invokevirtual 84, 3) := by decide +kernel
theorem dX6_memberAt_33 : decode cX6_memberAt 33 = .ok (.checkcast 50, 3) := by decide +kernel
theorem dX6_memberAt_36 : decode cX6_memberAt 36 = .ok (.areturn, 1) := by decide +kernel
theorem dX6_memberInClub_0 : decode cX6_memberInClub 0 = .ok (.aload_n 0, 1) := by decide +kernel
theorem dX6_memberInClub_1 : decode cX6_memberInClub 1 = .ok (.iload_n 1, 1) := by decide +kernel
theorem dX6_memberInClub_2 : decode cX6_memberInClub 2 = .ok (.invokevirtual 163, 3) := by decide +kernel
theorem dX6_memberInClub_5 : decode cX6_memberInClub 5 = .ok (.astore_n 2, 1) := by decide +kernel
theorem dX6_memberInClub_6 : decode cX6_memberInClub 6 = .ok (.aload_n 2, 1) := by decide +kernel
theorem dX6_memberInClub_7 : decode cX6_memberInClub 7 = .ok (.getfield 198, 3) := by decide +kernel
theorem dX6_memberInClub_10 : decode cX6_memberInClub 10 = .ok (.ifCond .ne 13, 3) := by decide +kernel
theorem dX6_memberInClub_13 : decode cX6_memberInClub 13 = .ok (.new 45, 3) := by decide +kernel
theorem dX6_memberInClub_16 : decode cX6_memberInClub 16 = .ok (.dup, 1) := by decide +kernel
theorem dX6_memberInClub_17 : decode cX6_memberInClub 17 = .ok (.ldc 246, 2) := by decide +kernel
theorem dX6_memberInClub_19 : decode cX6_memberInClub 19 = .ok (.invokespecial 49, 3) := by decide +kernel
theorem dX6_memberInClub_22 : decode cX6_memberInClub 22 = .ok (.athrow, 1) := by decide +kernel
theorem dX6_memberInClub_23 : decode cX6_memberInClub 23 = .ok (.aload_n 2, 1) := by decide +kernel
theorem dX6_memberInClub_24 : decode cX6_memberInClub 24 = .ok (.areturn, 1) := by decide +kernel
theorem dX6_filmAt_0 : decode cX6_filmAt 0 = .ok (.iload_n 1, 1) := by decide +kernel
theorem dX6_filmAt_1 : decode cX6_filmAt 1 = .ok (.ifCond .lt 14, 3) := by decide +kernel
theorem dX6_filmAt_4 : decode cX6_filmAt 4 = .ok (.iload_n 1, 1) := by decide +kernel
theorem dX6_filmAt_5 : decode cX6_filmAt 5 = .ok (.aload_n 0, 1) := by decide +kernel
theorem dX6_filmAt_6 : decode cX6_filmAt 6 = .ok (.getfield 16, 3) := by decide +kernel
theorem dX6_filmAt_9 : decode cX6_filmAt 9 = .ok (.invokevirtual 41, 3) := by decide +kernel
theorem dX6_filmAt_12 : decode cX6_filmAt 12 = .ok (.if_icmp .lt 13, 3) := by decide +kernel
theorem dX6_filmAt_15 : decode cX6_filmAt 15 = .ok (.new 225, 3) := by decide +kernel
theorem dX6_filmAt_18 : decode cX6_filmAt 18 = .ok (.dup, 1) := by decide +kernel
theorem dX6_filmAt_19 : decode cX6_filmAt 19 = .ok (.ldc 248, 2) := by decide +kernel
theorem dX6_filmAt_21 : decode cX6_filmAt 21 = .ok (.invokespecial 229, 3) := by decide +kernel
theorem dX6_filmAt_24 : decode cX6_filmAt 24 = .ok (.athrow, 1) := by decide +kernel
theorem dX6_filmAt_25 : decode cX6_filmAt 25 = .ok (.aload_n 0, 1) := by decide +kernel
theorem dX6_filmAt_26 : decode cX6_filmAt 26 = .ok (.getfield 16, 3) := by decide +kernel
theorem dX6_filmAt_29 : decode cX6_filmAt 29 = .ok (.iload_n 1, 1) := by decide +kernel
theorem dX6_filmAt_30 : decode cX6_filmAt 30 = .ok (.invokevirtual 84, 3) := by decide +kernel
theorem dX6_filmAt_33 : decode cX6_filmAt 33 = .ok (.checkcast 113, 3) := by decide +kernel
theorem dX6_filmAt_36 : decode cX6_filmAt 36 = .ok (.areturn, 1) := by decide +kernel
theorem dX6_proposalAt_0 : decode cX6_proposalAt 0 = .ok (.iload_n 1, 1) := by decide +kernel
theorem dX6_proposalAt_1 : decode cX6_proposalAt 1 = .ok (.ifCond .lt 14, 3) := by decide +kernel
theorem dX6_proposalAt_4 : decode cX6_proposalAt 4 = .ok (.iload_n 1, 1) := by decide +kernel
theorem dX6_proposalAt_5 : decode cX6_proposalAt 5 = .ok (.aload_n 0, 1) := by decide +kernel
theorem dX6_proposalAt_6 : decode cX6_proposalAt 6 = .ok (.getfield 19, 3) := by decide +kernel
theorem dX6_proposalAt_9 : decode cX6_proposalAt 9 = .ok (.invokevirtual 41, 3) := by decide +kernel
theorem dX6_proposalAt_12 : decode cX6_proposalAt 12 = .ok (.if_icmp .lt 13, 3) := by decide +kernel
theorem dX6_proposalAt_15 : decode cX6_proposalAt 15 = .ok (.new 225, 3) := by decide +kernel
theorem dX6_proposalAt_18 : decode cX6_proposalAt 18 = .ok (.dup, 1) := by decide +kernel
theorem dX6_proposalAt_19 : decode cX6_proposalAt 19 = .ok (.ldc 250, 2) := by decide +kernel
theorem dX6_proposalAt_21 : decode cX6_proposalAt 21 = .ok (.invokespecial 229, 3) := by decide +kernel
theorem dX6_proposalAt_24 : decode cX6_proposalAt 24 = .ok (.athrow, 1) := by decide +kernel
theorem dX6_proposalAt_25 : decode cX6_proposalAt 25 = .ok (.aload_n 0, 1) := by decide +kernel
theorem dX6_proposalAt_26 : decode cX6_proposalAt 26 = .ok (.getfield 19, 3) := by decide +kernel
theorem dX6_proposalAt_29 : decode cX6_proposalAt 29 = .ok (.iload_n 1, 1) := by decide +kernel
theorem dX6_proposalAt_30 : decode cX6_proposalAt 30 = .ok (.invokevirtual 84, 3) := by decide +kernel
theorem dX6_proposalAt_33 : decode cX6_proposalAt 33 = .ok (.checkcast 88, 3) := by decide +kernel
theorem dX6_proposalAt_36 : decode cX6_proposalAt 36 = .ok (.areturn, 1) := by decide +kernel
theorem dX6_checkRule_0 : decode cX6_checkRule 0 = .ok (.iload_n 1, 1) := by decide +kernel
theorem dX6_checkRule_1 : decode cX6_checkRule 1 = .ok (.ifCond .lt 11, 3) := by decide +kernel
theorem dX6_checkRule_4 : decode cX6_checkRule 4 = .ok (.iload_n 1, 1) := by decide +kernel
theorem dX6_checkRule_5 : decode cX6_checkRule 5 = .ok (.getstatic 252, 3) := by decide +kernel
theorem dX6_checkRule_8 : decode cX6_checkRule 8 = .ok (.arraylength, 1) := by decide +kernel
theorem dX6_checkRule_9 : decode cX6_checkRule 9 = .ok (.if_icmp .lt 13, 3) := by decide +kernel
theorem dX6_checkRule_12 : decode cX6_checkRule 12 = .ok (.new 225, 3) := by decide +kernel
theorem dX6_checkRule_15 : decode cX6_checkRule 15 = .ok (.dup, 1) := by decide +kernel
theorem dX6_checkRule_16 : decode cX6_checkRule 16 = .ok (.ldc 255, 2) := by decide +kernel
theorem dX6_checkRule_18 : decode cX6_checkRule 18 = .ok (.invokespecial 229, 3) := by decide +kernel
theorem dX6_checkRule_21 : decode cX6_checkRule 21 = .ok (.athrow, 1) := by decide +kernel
theorem dX6_checkRule_22 : decode cX6_checkRule 22 = .ok (.return_, 1) := by decide +kernel
theorem dX6_checkWhat_0 : decode cX6_checkWhat 0 = .ok (.iload_n 1, 1) := by decide +kernel
theorem dX6_checkWhat_1 : decode cX6_checkWhat 1 = .ok (.ifCond .lt 8, 3) := by decide +kernel
theorem dX6_checkWhat_4 : decode cX6_checkWhat 4 = .ok (.iload_n 1, 1) := by decide +kernel
theorem dX6_checkWhat_5 : decode cX6_checkWhat 5 = .ok (.iconst 4, 1) := by decide +kernel
theorem dX6_checkWhat_6 : decode cX6_checkWhat 6 = .ok (.if_icmp .le 14, 3) := by decide +kernel
theorem dX6_checkWhat_9 : decode cX6_checkWhat 9 = .ok (.new 32, 3) := by decide +kernel
theorem dX6_checkWhat_12 : decode cX6_checkWhat 12 = .ok (.dup, 1) := by decide +kernel
theorem dX6_checkWhat_13 : decode cX6_checkWhat 13 = .ok (.ldc_w 257, 3) := by decide +kernel
theorem dX6_checkWhat_16 : decode cX6_checkWhat 16 = .ok (.invokespecial 36, 3) := by decide +kernel
theorem dX6_checkWhat_19 : decode cX6_checkWhat 19 = .ok (.athrow, 1) := by decide +kernel
theorem dX6_checkWhat_20 : decode cX6_checkWhat 20 = .ok (.return_, 1) := by decide +kernel
theorem dX6_planFetch_0 : decode cX6_planFetch 0 = .ok (.aload_n 1, 1) := by decide +kernel
theorem dX6_planFetch_1 : decode cX6_planFetch 1 = .ok (.iload_n 2, 1) := by decide +kernel
theorem dX6_planFetch_2 : decode cX6_planFetch 2 = .ok (.invokevirtual 209, 3) := by decide +kernel
theorem dX6_planFetch_5 : decode cX6_planFetch 5 = .ok (.ifCond .eq 23, 3) := by decide +kernel
theorem dX6_planFetch_8 : decode cX6_planFetch 8 = .ok (.new 66, 3) := by decide +kernel
theorem dX6_planFetch_11 : decode cX6_planFetch 11 = .ok (.dup, 1) := by decide +kernel
theorem dX6_planFetch_12 : decode cX6_planFetch 12 = .ok (.getstatic 259, 3) := by decide +kernel
theorem dX6_planFetch_15 : decode cX6_planFetch 15 = .ok (.aload_n 0, 1) := by decide +kernel
theorem dX6_planFetch_16 : decode cX6_planFetch 16 = .ok (.getfield 25, 3) := by decide +kernel
theorem dX6_planFetch_19 : decode cX6_planFetch 19 = .ok (.aload_n 1, 1) := by decide +kernel
theorem dX6_planFetch_20 : decode cX6_planFetch 20 = .ok (.getfield 262, 3) := by decide +kernel
theorem dX6_planFetch_23 : decode cX6_planFetch 23 = .ok (.iload_n 3, 1) := by decide +kernel
theorem dX6_planFetch_24 : decode cX6_planFetch 24 = .ok (.invokespecial 74, 3) := by decide +kernel
theorem dX6_planFetch_27 : decode cX6_planFetch 27 = .ok (.areturn, 1) := by decide +kernel
theorem dX6_planFetch_28 : decode cX6_planFetch 28 = .ok (.new 66, 3) := by decide +kernel
theorem dX6_planFetch_31 : decode cX6_planFetch 31 = .ok (.dup, 1) := by decide +kernel
theorem dX6_planFetch_32 : decode cX6_planFetch 32 = .ok (.getstatic 265, 3) := by decide +kernel
theorem dX6_planFetch_35 : decode cX6_planFetch 35 = .ok (.aload_n 0, 1) := by decide +kernel
theorem dX6_planFetch_36 : decode cX6_planFetch 36 = .ok (.getfield 25, 3) := by decide +kernel
theorem dX6_planFetch_39 : decode cX6_planFetch 39 = .ok (.aload_n 1, 1) := by decide +kernel
theorem dX6_planFetch_40 : decode cX6_planFetch 40 = .ok (.getfield 262, 3) := by decide +kernel
theorem dX6_planFetch_43 : decode cX6_planFetch 43 = .ok (.iload_n 3, 1) := by decide +kernel
theorem dX6_planFetch_44 : decode cX6_planFetch 44 = .ok (.invokespecial 74, 3) := by decide +kernel
theorem dX6_planFetch_47 : decode cX6_planFetch 47 = .ok (.astore 4, 2) := by decide +kernel
theorem dX6_planFetch_49 : decode cX6_planFetch 49 = .ok (.aload_n 0, 1) := by decide +kernel
theorem dX6_planFetch_50 : decode cX6_planFetch 50 = .ok (.iload_n 2, 1) := by decide +kernel
theorem dX6_planFetch_51 : decode cX6_planFetch 51 = .ok (.aload 4, 2) := by decide +kernel
theorem dX6_planFetch_53 : decode cX6_planFetch 53 = .ok (.getfield 130, 3) := by decide +kernel
theorem dX6_planFetch_56 : decode cX6_planFetch 56 = .ok (.invokevirtual 268, 3) := by decide +kernel
theorem dX6_planFetch_59 : decode cX6_planFetch 59 = .ok (.istore 5, 2) := by decide +kernel
theorem dX6_planFetch_61 : decode cX6_planFetch 61 = .ok (.iload 5, 2) := by decide +kernel
theorem dX6_planFetch_63 : decode cX6_planFetch 63 = .ok (.iconst (-1), 1) := by decide +kernel
theorem dX6_planFetch_64 : decode cX6_planFetch 64 = .ok (.if_icmp .eq 36, 3) := by decide +kernel
theorem dX6_planFetch_67 : decode cX6_planFetch 67 = .ok (.aload_n 0, 1) := by decide +kernel
theorem dX6_planFetch_68 : decode cX6_planFetch 68 = .ok (.iload 5, 2) := by decide +kernel
theorem dX6_planFetch_70 : decode cX6_planFetch 70 = .ok (.aload 4, 2) := by decide +kernel
theorem dX6_planFetch_72 : decode cX6_planFetch 72 = .ok (.getfield 130, 3) := by decide +kernel
theorem dX6_planFetch_75 : decode cX6_planFetch 75 = .ok (.invokevirtual 272, 3) := by decide +kernel
theorem dX6_planFetch_78 : decode cX6_planFetch 78 = .ok (.iload_n 3, 1) := by decide +kernel
theorem dX6_planFetch_79 : decode cX6_planFetch 79 = .ok (.if_icmp .lt 21, 3) := by decide +kernel
theorem dX6_planFetch_82 : decode cX6_planFetch 82 = .ok (.aload 4, 2) := by decide +kernel
theorem dX6_planFetch_84 : decode cX6_planFetch 84 = .ok (.iload 5, 2) := by decide +kernel
theorem dX6_planFetch_86 : decode cX6_planFetch 86 = .ok (.putfield 275, 3) := by decide +kernel
theorem dX6_planFetch_89 : decode cX6_planFetch 89 = .ok (.aload 4, 2) := by decide +kernel
theorem dX6_planFetch_91 : decode cX6_planFetch 91 = .ok (.iload 5, 2) := by decide +kernel
theorem dX6_planFetch_93 : decode cX6_planFetch 93 = .ok (.iload_n 3, 1) := by decide +kernel
theorem dX6_planFetch_94 : decode cX6_planFetch 94 = .ok (.invokevirtual 278, 3) := by decide +kernel
theorem dX6_planFetch_97 : decode cX6_planFetch 97 = .ok (.aload 4, 2) := by decide +kernel
theorem dX6_planFetch_99 : decode cX6_planFetch 99 = .ok (.areturn, 1) := by decide +kernel
theorem dX6_planFetch_100 : decode cX6_planFetch 100 = .ok (.aload_n 0, 1) := by decide +kernel
theorem dX6_planFetch_101 : decode cX6_planFetch 101 = .ok (.invokevirtual 281, 3) := by decide +kernel
theorem dX6_planFetch_104 : decode cX6_planFetch 104 = .ok (.iload_n 3, 1) := by decide +kernel
theorem dX6_planFetch_105 : decode cX6_planFetch 105 = .ok (.if_icmp .ge 14, 3) := by decide +kernel
theorem dX6_planFetch_108 : decode cX6_planFetch 108 = .ok (.new 45, 3) := by decide +kernel
theorem dX6_planFetch_111 : decode cX6_planFetch 111 = .ok (.dup, 1) := by decide +kernel
theorem dX6_planFetch_112 : decode cX6_planFetch 112 = .ok (.ldc_w 284, 3) := by decide +kernel
theorem dX6_planFetch_115 : decode cX6_planFetch 115 = .ok (.invokespecial 49, 3) := by decide +kernel
theorem dX6_planFetch_118 : decode cX6_planFetch 118 = .ok (.athrow, 1) := by decide +kernel
theorem dX6_planFetch_119 : decode cX6_planFetch 119 = .ok (.aload_n 0, 1) := by decide +kernel
theorem dX6_planFetch_120 : decode cX6_planFetch 120 = .ok (.aload_n 1, 1) := by decide +kernel
theorem dX6_planFetch_121 : decode cX6_planFetch 121 = .ok (.iload_n 3, 1) := by decide +kernel
theorem dX6_planFetch_122 : decode cX6_planFetch 122 = .ok (.invokevirtual 286, 3) := by decide +kernel
theorem dX6_planFetch_125 : decode cX6_planFetch 125 = .ok (.areturn, 1) := by decide +kernel
theorem dX6_planFromOutside_0 : decode cX6_planFromOutside 0 = .ok (.new 66, 3) := by decide +kernel
theorem dX6_planFromOutside_3 : decode cX6_planFromOutside 3 = .ok (.dup, 1) := by decide +kernel
theorem dX6_planFromOutside_4 : decode cX6_planFromOutside 4 = .ok (.getstatic 145, 3) := by decide +kernel
theorem dX6_planFromOutside_7 : decode cX6_planFromOutside 7 = .ok (.aload_n 0, 1) := by decide +kernel
theorem dX6_planFromOutside_8 : decode cX6_planFromOutside 8 = .ok (.getfield 25, 3) := by decide +kernel
theorem dX6_planFromOutside_11 : decode cX6_planFromOutside 11 = .ok (.aload_n 1, 1) := by decide +kernel
theorem dX6_planFromOutside_12 : decode cX6_planFromOutside 12 = .ok (.getfield 262, 3) := by decide +kernel
theorem dX6_planFromOutside_15 : decode cX6_planFromOutside 15 = .ok (.iload_n 2, 1) := by decide +kernel
theorem dX6_planFromOutside_16 : decode cX6_planFromOutside 16 = .ok (.invokespecial 74, 3) := by decide +kernel
theorem dX6_planFromOutside_19 : decode cX6_planFromOutside 19 = .ok (.astore_n 3, 1) := by decide +kernel
theorem dX6_planFromOutside_20 : decode cX6_planFromOutside 20 = .ok (.iload_n 2, 1) := by decide +kernel
theorem dX6_planFromOutside_21 : decode cX6_planFromOutside 21 = .ok (.aload_n 1, 1) := by decide +kernel
theorem dX6_planFromOutside_22 : decode cX6_planFromOutside 22 = .ok (.getfield 202, 3) := by decide +kernel
theorem dX6_planFromOutside_25 : decode cX6_planFromOutside 25 = .ok (.invokestatic 290, 3) := by decide +kernel
theorem dX6_planFromOutside_28 : decode cX6_planFromOutside 28 = .ok (.istore 4, 2) := by decide +kernel
theorem dX6_planFromOutside_30 : decode cX6_planFromOutside 30 = .ok (.aload_n 3, 1) := by decide +kernel
theorem dX6_planFromOutside_31 : decode cX6_planFromOutside 31 = .ok (.aload_n 1, 1) := by decide +kernel
theorem dX6_planFromOutside_32 : decode cX6_planFromOutside 32 = .ok (.getfield 262, 3) := by decide +kernel
theorem dX6_planFromOutside_35 : decode cX6_planFromOutside 35 = .ok (.iload 4, 2) := by decide +kernel
theorem dX6_planFromOutside_37 : decode cX6_planFromOutside 37 = .ok (.invokevirtual 278, 3) := by decide +kernel
theorem dX6_planFromOutside_40 : decode cX6_planFromOutside 40 = .ok (.iload_n 2, 1) := by decide +kernel
theorem dX6_planFromOutside_41 : decode cX6_planFromOutside 41 = .ok (.iload 4, 2) := by decide +kernel
theorem dX6_planFromOutside_43 : decode cX6_planFromOutside 43 = .ok (.isub, 1) := by decide +kernel
theorem dX6_planFromOutside_44 : decode cX6_planFromOutside 44 = .ok (.istore 5, 2) := by decide +kernel
theorem dX6_planFromOutside_46 : decode cX6_planFromOutside 46 = .ok (.iconst 0, 1) := by decide +kernel
theorem dX6_planFromOutside_47 : decode cX6_planFromOutside 47 = .ok (.istore 6, 2) := by decide +kernel
theorem dX6_planFromOutside_49 : decode cX6_planFromOutside 49 = .ok (.iload 6, 2) := by decide +kernel
theorem dX6_planFromOutside_51 : decode cX6_planFromOutside 51 = .ok (.bipush 10, 2) := by decide +kernel
theorem dX6_planFromOutside_53 : decode cX6_planFromOutside 53 = .ok (.if_icmp .ge 57, 3) := by decide +kernel
theorem dX6_planFromOutside_56 : decode cX6_planFromOutside 56 = .ok (.iload 5, 2) := by decide +kernel
theorem dX6_planFromOutside_58 : decode cX6_planFromOutside 58 = .ok (.ifCond .le 52, 3) := by decide +kernel
theorem dX6_planFromOutside_61 : decode cX6_planFromOutside 61 = .ok (.aload_n 0, 1) := by decide +kernel
theorem dX6_planFromOutside_62 : decode cX6_planFromOutside 62 = .ok (.iconst (-1), 1) := by decide +kernel
theorem dX6_planFromOutside_63 : decode cX6_planFromOutside 63 = .ok (.aload_n 3, 1) := by decide +kernel
theorem dX6_planFromOutside_64 : decode cX6_planFromOutside 64 = .ok (.getfield 130, 3) := by decide +kernel
theorem dX6_planFromOutside_67 : decode cX6_planFromOutside 67 = .ok (.invokevirtual 268, 3) := by decide +kernel
theorem dX6_planFromOutside_70 : decode cX6_planFromOutside 70 = .ok (.istore 7, 2) := by decide +kernel
theorem dX6_planFromOutside_72 : decode cX6_planFromOutside 72 = .ok (.iload 5, 2) := by decide +kernel
theorem dX6_planFromOutside_74 : decode cX6_planFromOutside 74 = .ok (.aload_n 0, 1) := by decide +kernel
theorem dX6_planFromOutside_75 : decode cX6_planFromOutside 75 = .ok (.iload 7, 2) := by decide +kernel
theorem dX6_planFromOutside_77 : decode cX6_planFromOutside 77 = .ok (.aload_n 3, 1) := by decide +kernel
theorem dX6_planFromOutside_78 : decode cX6_planFromOutside 78 = .ok (.getfield 130, 3) := by decide +kernel
theorem dX6_planFromOutside_81 : decode cX6_planFromOutside 81 = .ok (.invokevirtual 272, 3) := by decide +kernel
theorem dX6_planFromOutside_84 : decode cX6_planFromOutside 84 = .ok (.invokestatic 290, 3) := by decide +kernel
theorem dX6_planFromOutside_87 : decode cX6_planFromOutside 87 = .ok (.istore 8, 2) := by decide +kernel
theorem dX6_planFromOutside_89 : decode cX6_planFromOutside 89 = .ok (.aload_n 3, 1) := by decide +kernel
theorem dX6_planFromOutside_90 : decode cX6_planFromOutside 90 = .ok (.iload 7, 2) := by decide +kernel
theorem dX6_planFromOutside_92 : decode cX6_planFromOutside 92 = .ok (.iload 8, 2) := by decide +kernel
theorem dX6_planFromOutside_94 : decode cX6_planFromOutside 94 = .ok (.invokevirtual 278, 3) := by decide +kernel
theorem dX6_planFromOutside_97 : decode cX6_planFromOutside 97 = .ok (.iload 5, 2) := by decide +kernel
theorem dX6_planFromOutside_99 : decode cX6_planFromOutside 99 = .ok (.iload 8, 2) := by decide +kernel
theorem dX6_planFromOutside_101 : decode cX6_planFromOutside 101 = .ok (.isub, 1) := by decide +kernel
theorem dX6_planFromOutside_102 : decode cX6_planFromOutside 102 = .ok (.istore 5, 2) := by decide +kernel
theorem dX6_planFromOutside_104 : decode cX6_planFromOutside 104 = .ok (.iinc 6 1, 3) := by decide +kernel
theorem dX6_planFromOutside_107 : decode cX6_planFromOutside 107 = .ok (.goto (-58), 3) := by decide +kernel
theorem dX6_planFromOutside_110 : decode cX6_planFromOutside 110 = .ok (.aload_n 3, 1) := by decide +kernel
theorem dX6_planFromOutside_111 : decode cX6_planFromOutside 111 = .ok (.areturn, 1) := by decide +kernel
theorem dX6_withMostLeft_0 : decode cX6_withMostLeft 0 = .ok (.iconst (-1), 1) := by decide +kernel
theorem dX6_withMostLeft_1 : decode cX6_withMostLeft 1 = .ok (.istore_n 3, 1) := by decide +kernel
theorem dX6_withMostLeft_2 : decode cX6_withMostLeft 2 = .ok (.iconst 0, 1) := by decide +kernel
theorem dX6_withMostLeft_3 : decode cX6_withMostLeft 3 = .ok (.istore 4, 2) := by decide +kernel
theorem dX6_withMostLeft_5 : decode cX6_withMostLeft 5 = .ok (.iconst 0, 1) := by decide +kernel
theorem dX6_withMostLeft_6 : decode cX6_withMostLeft 6 = .ok (.istore 5, 2) := by decide +kernel
theorem dX6_withMostLeft_8 : decode cX6_withMostLeft 8 = .ok (.iload 5, 2) := by decide +kernel
theorem dX6_withMostLeft_10 : decode cX6_withMostLeft 10 = .ok (.aload_n 0, 1) := by decide +kernel
theorem dX6_withMostLeft_11 : decode cX6_withMostLeft 11 = .ok (.getfield 10, 3) := by decide +kernel
theorem dX6_withMostLeft_14 : decode cX6_withMostLeft 14 = .ok (.invokevirtual 41, 3) := by decide +kernel
theorem dX6_withMostLeft_17 : decode cX6_withMostLeft 17 = .ok (.if_icmp .ge 56, 3) := by decide +kernel
theorem dX6_withMostLeft_20 : decode cX6_withMostLeft 20 = .ok (.aload_n 0, 1) := by decide +kernel
theorem dX6_withMostLeft_21 : decode cX6_withMostLeft 21 = .ok (.iload 5, 2) := by decide +kernel
theorem dX6_withMostLeft_23 : decode cX6_withMostLeft 23 = .ok (.aload_n 2, 1) := by decide +kernel
theorem dX6_withMostLeft_24 : decode cX6_withMostLeft 24 = .ok (.invokevirtual 272, 3) := by decide +kernel
theorem dX6_withMostLeft_27 : decode cX6_withMostLeft 27 = .ok (.istore 6, 2) := by decide +kernel
theorem dX6_withMostLeft_29 : decode cX6_withMostLeft 29 = .ok (.iload 6, 2) := by decide +kernel
theorem dX6_withMostLeft_31 : decode cX6_withMostLeft 31 = .ok (.iload 4, 2) := by decide +kernel
theorem dX6_withMostLeft_33 : decode cX6_withMostLeft 33 = .ok (.if_icmp .le 34, 3) := by decide +kernel
theorem dX6_withMostLeft_36 : decode cX6_withMostLeft 36 = .ok (.iload_n 1, 1) := by decide +kernel
theorem dX6_withMostLeft_37 : decode cX6_withMostLeft 37 = .ok (.iconst (-1), 1) := by decide +kernel
theorem dX6_withMostLeft_38 : decode cX6_withMostLeft 38 = .ok (.if_icmp .eq 22, 3) := by decide +kernel
theorem dX6_withMostLeft_41 : decode cX6_withMostLeft 41 = .ok (.aload_n 0, 1) := by decide +kernel
theorem dX6_withMostLeft_42 : decode cX6_withMostLeft 42 = .ok (.getfield 10, 3) := by decide +kernel
theorem dX6_withMostLeft_45 : decode cX6_withMostLeft 45 = .ok (.iload 5, 2) := by decide +kernel
theorem dX6_withMostLeft_47 : decode cX6_withMostLeft 47 = .ok (.invokevirtual 84, 3) := by decide +kernel
theorem dX6_withMostLeft_50 : decode cX6_withMostLeft 50 = .ok (.checkcast 50, 3) := by decide +kernel
theorem dX6_withMostLeft_53 : decode cX6_withMostLeft 53 = .ok (.iload_n 1, 1) := by decide +kernel
theorem dX6_withMostLeft_54 : decode cX6_withMostLeft 54 = .ok (.invokevirtual 209, 3) := by decide +kernel
theorem dX6_withMostLeft_57 : decode cX6_withMostLeft 57 = .ok (.ifCond .eq 10, 3) := by decide +kernel
theorem dX6_withMostLeft_60 : decode cX6_withMostLeft 60 = .ok (.iload 5, 2) := by decide +kernel
theorem dX6_withMostLeft_62 : decode cX6_withMostLeft 62 = .ok (.istore_n 3, 1) := by decide +kernel
theorem dX6_withMostLeft_63 : decode cX6_withMostLeft 63 = .ok (.iload 6, 2) := by decide +kernel
theorem dX6_withMostLeft_65 : decode cX6_withMostLeft 65 = .ok (.istore 4, 2) := by decide +kernel
theorem dX6_withMostLeft_67 : decode cX6_withMostLeft 67 = .ok (.iinc 5 1, 3) := by decide +kernel
theorem dX6_withMostLeft_70 : decode cX6_withMostLeft 70 = .ok (.goto (-62), 3) := by decide +kernel
theorem dX6_withMostLeft_73 : decode cX6_withMostLeft 73 = .ok (.iload_n 3, 1) := by decide +kernel
theorem dX6_withMostLeft_74 : decode cX6_withMostLeft 74 = .ok (.ireturn, 1) := by decide +kernel
theorem dX6_leftBeside_0 : decode cX6_leftBeside 0 = .ok (.iload_n 1, 1) := by decide +kernel
theorem dX6_leftBeside_1 : decode cX6_leftBeside 1 = .ok (.ifCond .lt 20, 3) := by decide +kernel
theorem dX6_leftBeside_4 : decode cX6_leftBeside 4 = .ok (.iload_n 1, 1) := by decide +kernel
theorem dX6_leftBeside_5 : decode cX6_leftBeside 5 = .ok (.aload_n 0, 1) := by decide +kernel
theorem dX6_leftBeside_6 : decode cX6_leftBeside 6 = .ok (.getfield 10, 3) := by decide +kernel
theorem dX6_leftBeside_9 : decode cX6_leftBeside 9 = .ok (.invokevirtual 41, 3) := by decide +kernel
theorem dX6_leftBeside_12 : decode cX6_leftBeside 12 = .ok (.if_icmp .ge 9, 3) := by decide +kernel
theorem dX6_leftBeside_15 : decode cX6_leftBeside 15 = .ok (.iload_n 1, 1) := by decide +kernel
theorem dX6_leftBeside_16 : decode cX6_leftBeside 16 = .ok (.aload_n 2, 1) := by decide +kernel
theorem dX6_leftBeside_17 : decode cX6_leftBeside 17 = .ok (.arraylength, 1) := by decide +kernel
theorem dX6_leftBeside_18 : decode cX6_leftBeside 18 = .ok (.if_icmp .lt 5, 3) := by decide +kernel
theorem dX6_leftBeside_21 : decode cX6_leftBeside 21 = .ok (.iconst 0, 1) := by decide +kernel
theorem dX6_leftBeside_22 : decode cX6_leftBeside 22 = .ok (.ireturn, 1) := by decide +kernel
theorem dX6_leftBeside_23 : decode cX6_leftBeside 23 = .ok (.aload_n 0, 1) := by decide +kernel
theorem dX6_leftBeside_24 : decode cX6_leftBeside 24 = .ok (.getfield 10, 3) := by decide +kernel
theorem dX6_leftBeside_27 : decode cX6_leftBeside 27 = .ok (.iload_n 1, 1) := by decide +kernel
theorem dX6_leftBeside_28 : decode cX6_leftBeside 28 = .ok (.invokevirtual 84, 3) := by decide +kernel
theorem dX6_leftBeside_31 : decode cX6_leftBeside 31 = .ok (.checkcast 50, 3) := by decide +kernel
theorem dX6_leftBeside_34 : decode cX6_leftBeside 34 = .ok (.getfield 202, 3) := by decide +kernel
theorem dX6_leftBeside_37 : decode cX6_leftBeside 37 = .ok (.aload_n 2, 1) := by decide +kernel
theorem dX6_leftBeside_38 : decode cX6_leftBeside 38 = .ok (.iload_n 1, 1) := by decide +kernel
theorem dX6_leftBeside_39 : decode cX6_leftBeside 39 = .ok (.iaload, 1) := by decide +kernel
theorem dX6_leftBeside_40 : decode cX6_leftBeside 40 = .ok (.isub, 1) := by decide +kernel
theorem dX6_leftBeside_41 : decode cX6_leftBeside 41 = .ok (.ireturn, 1) := by decide +kernel
theorem dX6_leftOfAll_0 : decode cX6_leftOfAll 0 = .ok (.iconst 0, 1) := by decide +kernel
theorem dX6_leftOfAll_1 : decode cX6_leftOfAll 1 = .ok (.istore_n 1, 1) := by decide +kernel
theorem dX6_leftOfAll_2 : decode cX6_leftOfAll 2 = .ok (.iconst 0, 1) := by decide +kernel
theorem dX6_leftOfAll_3 : decode cX6_leftOfAll 3 = .ok (.istore_n 2, 1) := by decide +kernel
theorem dX6_leftOfAll_4 : decode cX6_leftOfAll 4 = .ok (.iload_n 2, 1) := by decide +kernel
theorem dX6_leftOfAll_5 : decode cX6_leftOfAll 5 = .ok (.aload_n 0, 1) := by decide +kernel
theorem dX6_leftOfAll_6 : decode cX6_leftOfAll 6 = .ok (.getfield 10, 3) := by decide +kernel
theorem dX6_leftOfAll_9 : decode cX6_leftOfAll 9 = .ok (.invokevirtual 41, 3) := by decide +kernel
theorem dX6_leftOfAll_12 : decode cX6_leftOfAll 12 = .ok (.if_icmp .ge 26, 3) := by decide +kernel
theorem dX6_leftOfAll_15 : decode cX6_leftOfAll 15 = .ok (.iload_n 1, 1) := by decide +kernel
theorem dX6_leftOfAll_16 : decode cX6_leftOfAll 16 = .ok (.aload_n 0, 1) := by decide +kernel
theorem dX6_leftOfAll_17 : decode cX6_leftOfAll 17 = .ok (.getfield 10, 3) := by decide +kernel
theorem dX6_leftOfAll_20 : decode cX6_leftOfAll 20 = .ok (.iload_n 2, 1) := by decide +kernel
theorem dX6_leftOfAll_21 : decode cX6_leftOfAll 21 = .ok (.invokevirtual 84, 3) := by decide +kernel
theorem dX6_leftOfAll_24 : decode cX6_leftOfAll 24 = .ok (.checkcast 50, 3) := by decide +kernel
theorem dX6_leftOfAll_27 : decode cX6_leftOfAll 27 = .ok (.getfield 202, 3) := by decide +kernel
theorem dX6_leftOfAll_30 : decode cX6_leftOfAll 30 = .ok (.iadd, 1) := by decide +kernel
theorem dX6_leftOfAll_31 : decode cX6_leftOfAll 31 = .ok (.istore_n 1, 1) := by decide +kernel
theorem dX6_leftOfAll_32 : decode cX6_leftOfAll 32 = .ok (.iinc 2 1, 3) := by decide +kernel
theorem dX6_leftOfAll_35 : decode cX6_leftOfAll 35 = .ok (.goto (-31), 3) := by decide +kernel
theorem dX6_leftOfAll_38 : decode cX6_leftOfAll 38 = .ok (.iload_n 1, 1) := by decide +kernel
theorem dX6_leftOfAll_39 : decode cX6_leftOfAll 39 = .ok (.ireturn, 1) := by decide +kernel
theorem dX6_useLines_0 : decode cX6_useLines 0 = .ok (.iconst 0, 1) := by decide +kernel
theorem dX6_useLines_1 : decode cX6_useLines 1 = .ok (.istore_n 2, 1) := by decide +kernel
theorem dX6_useLines_2 : decode cX6_useLines 2 = .ok (.iload_n 2, 1) := by decide +kernel
theorem dX6_useLines_3 : decode cX6_useLines 3 = .ok (.aload_n 0, 1) := by decide +kernel
theorem dX6_useLines_4 : decode cX6_useLines 4 = .ok (.getfield 10, 3) := by decide +kernel
theorem dX6_useLines_7 : decode cX6_useLines 7 = .ok (.invokevirtual 41, 3) := by decide +kernel
theorem dX6_useLines_10 : decode cX6_useLines 10 = .ok (.if_icmp .ge 37, 3) := by decide +kernel
theorem dX6_useLines_13 : decode cX6_useLines 13 = .ok (.iload_n 2, 1) := by decide +kernel
theorem dX6_useLines_14 : decode cX6_useLines 14 = .ok (.aload_n 1, 1) := by decide +kernel
theorem dX6_useLines_15 : decode cX6_useLines 15 = .ok (.arraylength, 1) := by decide +kernel
theorem dX6_useLines_16 : decode cX6_useLines 16 = .ok (.if_icmp .ge 31, 3) := by decide +kernel
theorem dX6_useLines_19 : decode cX6_useLines 19 = .ok (.aload_n 0, 1) := by decide +kernel
theorem dX6_useLines_20 : decode cX6_useLines 20 = .ok (.getfield 10, 3) := by decide +kernel
theorem dX6_useLines_23 : decode cX6_useLines 23 = .ok (.iload_n 2, 1) := by decide +kernel
theorem dX6_useLines_24 : decode cX6_useLines 24 = .ok (.invokevirtual 84, 3) := by decide +kernel
theorem dX6_useLines_27 : decode cX6_useLines 27 = .ok (.checkcast 50, 3) := by decide +kernel
theorem dX6_useLines_30 : decode cX6_useLines 30 = .ok (.dup, 1) := by decide +kernel
theorem dX6_useLines_31 : decode cX6_useLines 31 = .ok (.getfield 202, 3) := by decide +kernel
theorem dX6_useLines_34 : decode cX6_useLines 34 = .ok (.aload_n 1, 1) := by decide +kernel
theorem dX6_useLines_35 : decode cX6_useLines 35 = .ok (.iload_n 2, 1) := by decide +kernel
theorem dX6_useLines_36 : decode cX6_useLines 36 = .ok (.iaload, 1) := by decide +kernel
theorem dX6_useLines_37 : decode cX6_useLines 37 = .ok (.isub, 1) := by decide +kernel
theorem dX6_useLines_38 : decode cX6_useLines 38 = .ok (.putfield 202, 3) := by decide +kernel
theorem dX6_useLines_41 : decode cX6_useLines 41 = .ok (.iinc 2 1, 3) := by decide +kernel
theorem dX6_useLines_44 : decode cX6_useLines 44 = .ok (.goto (-42), 3) := by decide +kernel
theorem dX6_useLines_47 : decode cX6_useLines 47 = .ok (.return_, 1) := by decide +kernel
theorem dX6_putIntoCache_0 : decode cX6_putIntoCache 0 = .ok (.aload_n 1, 1) := by decide +kernel
theorem dX6_putIntoCache_1 : decode cX6_putIntoCache 1 = .ok (.getfield 293, 3) := by decide +kernel
theorem dX6_putIntoCache_4 : decode cX6_putIntoCache 4 = .ok (.aload_n 3, 1) := by decide +kernel
theorem dX6_putIntoCache_5 : decode cX6_putIntoCache 5 = .ok (.getfield 124, 3) := by decide +kernel
theorem dX6_putIntoCache_8 : decode cX6_putIntoCache 8 = .ok (.isub, 1) := by decide +kernel
theorem dX6_putIntoCache_9 : decode cX6_putIntoCache 9 = .ok (.istore 4, 2) := by decide +kernel
theorem dX6_putIntoCache_11 : decode cX6_putIntoCache 11 = .ok (.aload_n 0, 1) := by decide +kernel
theorem dX6_putIntoCache_12 : decode cX6_putIntoCache 12 = .ok (.aload_n 1, 1) := by decide +kernel
theorem dX6_putIntoCache_13 : decode cX6_putIntoCache 13 = .ok (.aload_n 3, 1) := by decide +kernel
theorem dX6_putIntoCache_14 : decode cX6_putIntoCache 14 = .ok (.getfield 139, 3) := by decide +kernel
theorem dX6_putIntoCache_17 : decode cX6_putIntoCache 17 = .ok (.invokevirtual 205, 3) := by decide +kernel
theorem dX6_putIntoCache_20 : decode cX6_putIntoCache 20 = .ok (.iload 4, 2) := by decide +kernel
theorem dX6_putIntoCache_22 : decode cX6_putIntoCache 22 = .ok (.if_icmp .le 4, 3) := by decide +kernel
theorem dX6_putIntoCache_25 : decode cX6_putIntoCache 25 = .ok (.return_, 1) := by decide +kernel
theorem dX6_putIntoCache_26 : decode cX6_putIntoCache 26 = .ok (.iconst 0, 1) := by decide +kernel
theorem dX6_putIntoCache_27 : decode cX6_putIntoCache 27 = .ok (.istore 5, 2) := by decide +kernel
theorem dX6_putIntoCache_29 : decode cX6_putIntoCache 29 = .ok (.iload 5, 2) := by decide +kernel
theorem dX6_putIntoCache_31 : decode cX6_putIntoCache 31 = .ok (.bipush 20, 2) := by decide +kernel
theorem dX6_putIntoCache_33 : decode cX6_putIntoCache 33 = .ok (.if_icmp .ge 30, 3) := by decide +kernel
theorem dX6_putIntoCache_36 : decode cX6_putIntoCache 36 = .ok (.aload_n 0, 1) := by decide +kernel
theorem dX6_putIntoCache_37 : decode cX6_putIntoCache 37 = .ok (.aload_n 1, 1) := by decide +kernel
theorem dX6_putIntoCache_38 : decode cX6_putIntoCache 38 = .ok (.iconst 0, 1) := by decide +kernel
theorem dX6_putIntoCache_39 : decode cX6_putIntoCache 39 = .ok (.invokevirtual 205, 3) := by decide +kernel
theorem dX6_putIntoCache_42 : decode cX6_putIntoCache 42 = .ok (.iload 4, 2) := by decide +kernel
theorem dX6_putIntoCache_44 : decode cX6_putIntoCache 44 = .ok (.if_icmp .le 19, 3) := by decide +kernel
theorem dX6_putIntoCache_47 : decode cX6_putIntoCache 47 = .ok (.aload_n 1, 1) := by decide +kernel
theorem dX6_putIntoCache_48 : decode cX6_putIntoCache 48 = .ok (.aload_n 0, 1) := by decide +kernel
theorem dX6_putIntoCache_49 : decode cX6_putIntoCache 49 = .ok (.aload_n 1, 1) := by decide +kernel
theorem dX6_putIntoCache_50 : decode cX6_putIntoCache 50 = .ok (.invokevirtual 296, 3) := by decide +kernel
theorem dX6_putIntoCache_53 : decode cX6_putIntoCache 53 = .ok (.iconst 0, 1) := by decide +kernel
theorem dX6_putIntoCache_54 : decode cX6_putIntoCache 54 = .ok (.invokevirtual 300, 3) := by decide +kernel
theorem dX6_putIntoCache_57 : decode cX6_putIntoCache 57 = .ok (.iinc 5 1, 3) := by decide +kernel
theorem dX6_putIntoCache_60 : decode cX6_putIntoCache 60 = .ok (.goto (-31), 3) := by decide +kernel
theorem dX6_putIntoCache_63 : decode cX6_putIntoCache 63 = .ok (.aload_n 1, 1) := by decide +kernel
theorem dX6_putIntoCache_64 : decode cX6_putIntoCache 64 = .ok (.iload_n 2, 1) := by decide +kernel
theorem dX6_putIntoCache_65 : decode cX6_putIntoCache 65 = .ok (.iconst 1, 1) := by decide +kernel
theorem dX6_putIntoCache_66 : decode cX6_putIntoCache 66 = .ok (.invokevirtual 300, 3) := by decide +kernel
theorem dX6_putIntoCache_69 : decode cX6_putIntoCache 69 = .ok (.return_, 1) := by decide +kernel
theorem dX6_cachedUnits_0 : decode cX6_cachedUnits 0 = .ok (.iconst 0, 1) := by decide +kernel
theorem dX6_cachedUnits_1 : decode cX6_cachedUnits 1 = .ok (.istore_n 3, 1) := by decide +kernel
theorem dX6_cachedUnits_2 : decode cX6_cachedUnits 2 = .ok (.iconst 0, 1) := by decide +kernel
theorem dX6_cachedUnits_3 : decode cX6_cachedUnits 3 = .ok (.istore 4, 2) := by decide +kernel
theorem dX6_cachedUnits_5 : decode cX6_cachedUnits 5 = .ok (.iload 4, 2) := by decide +kernel
theorem dX6_cachedUnits_7 : decode cX6_cachedUnits 7 = .ok (.aload_n 0, 1) := by decide +kernel
theorem dX6_cachedUnits_8 : decode cX6_cachedUnits 8 = .ok (.getfield 16, 3) := by decide +kernel
theorem dX6_cachedUnits_11 : decode cX6_cachedUnits 11 = .ok (.invokevirtual 41, 3) := by decide +kernel
theorem dX6_cachedUnits_14 : decode cX6_cachedUnits 14 = .ok (.if_icmp .ge 55, 3) := by decide +kernel
theorem dX6_cachedUnits_17 : decode cX6_cachedUnits 17 = .ok (.aload_n 1, 1) := by decide +kernel
theorem dX6_cachedUnits_18 : decode cX6_cachedUnits 18 = .ok (.iload 4, 2) := by decide +kernel
theorem dX6_cachedUnits_20 : decode cX6_cachedUnits 20 = .ok (.invokevirtual 209, 3) := by decide +kernel
theorem dX6_cachedUnits_23 : decode cX6_cachedUnits 23 = .ok (.ifCond .eq 40, 3) := by decide +kernel
theorem dX6_cachedUnits_26 : decode cX6_cachedUnits 26 = .ok (.aload_n 0, 1) := by decide +kernel
theorem dX6_cachedUnits_27 : decode cX6_cachedUnits 27 = .ok (.getfield 16, 3) := by decide +kernel
theorem dX6_cachedUnits_30 : decode cX6_cachedUnits 30 = .ok (.iload 4, 2) := by decide +kernel
theorem dX6_cachedUnits_32 : decode cX6_cachedUnits 32 = .ok (.invokevirtual 84, 3) := by decide +kernel
theorem dX6_cachedUnits_35 : decode cX6_cachedUnits 35 = .ok (.checkcast 113, 3) := by decide +kernel
theorem dX6_cachedUnits_38 : decode cX6_cachedUnits 38 = .ok (.getfield 139, 3) := by decide +kernel
theorem dX6_cachedUnits_41 : decode cX6_cachedUnits 41 = .ok (.iload_n 2, 1) := by decide +kernel
theorem dX6_cachedUnits_42 : decode cX6_cachedUnits 42 = .ok (.if_icmp .lt 21, 3) := by decide +kernel
theorem dX6_cachedUnits_45 : decode cX6_cachedUnits 45 = .ok (.iload_n 3, 1) := by decide +kernel
theorem dX6_cachedUnits_46 : decode cX6_cachedUnits 46 = .ok (.aload_n 0, 1) := by decide +kernel
theorem dX6_cachedUnits_47 : decode cX6_cachedUnits 47 = .ok (.getfield 16, 3) := by decide +kernel
theorem dX6_cachedUnits_50 : decode cX6_cachedUnits 50 = .ok (.iload 4, 2) := by decide +kernel
theorem dX6_cachedUnits_52 : decode cX6_cachedUnits 52 = .ok (.invokevirtual 84, 3) := by decide +kernel
theorem dX6_cachedUnits_55 : decode cX6_cachedUnits 55 = .ok (.checkcast 113, 3) := by decide +kernel
theorem dX6_cachedUnits_58 : decode cX6_cachedUnits 58 = .ok (.getfield 124, 3) := by decide +kernel
theorem dX6_cachedUnits_61 : decode cX6_cachedUnits 61 = .ok (.iadd, 1) := by decide +kernel
theorem dX6_cachedUnits_62 : decode cX6_cachedUnits 62 = .ok (.istore_n 3, 1) := by decide +kernel
theorem dX6_cachedUnits_63 : decode cX6_cachedUnits 63 = .ok (.iinc 4 1, 3) := by decide +kernel
theorem dX6_cachedUnits_66 : decode cX6_cachedUnits 66 = .ok (.goto (-61), 3) := by decide +kernel
theorem dX6_cachedUnits_69 : decode cX6_cachedUnits 69 = .ok (.iload_n 3, 1) := by decide +kernel
theorem dX6_cachedUnits_70 : decode cX6_cachedUnits 70 = .ok (.ireturn, 1) := by decide +kernel
theorem dX6_leastWorthOf_0 : decode cX6_leastWorthOf 0 = .ok (.iconst (-1), 1) := by decide +kernel
theorem dX6_leastWorthOf_1 : decode cX6_leastWorthOf 1 = .ok (.istore_n 2, 1) := by decide +kernel
theorem dX6_leastWorthOf_2 : decode cX6_leastWorthOf 2 = .ok (.iconst 0, 1) := by decide +kernel
theorem dX6_leastWorthOf_3 : decode cX6_leastWorthOf 3 = .ok (.istore_n 3, 1) := by decide +kernel
theorem dX6_leastWorthOf_4 : decode cX6_leastWorthOf 4 = .ok (.iconst 0, 1) := by decide +kernel
theorem dX6_leastWorthOf_5 : decode cX6_leastWorthOf 5 = .ok (.istore 4, 2) := by decide +kernel
theorem dX6_leastWorthOf_7 : decode cX6_leastWorthOf 7 = .ok (.iload 4, 2) := by decide +kernel
theorem dX6_leastWorthOf_9 : decode cX6_leastWorthOf 9 = .ok (.aload_n 0, 1) := by decide +kernel
theorem dX6_leastWorthOf_10 : decode cX6_leastWorthOf 10 = .ok (.getfield 16, 3) := by decide +kernel
theorem dX6_leastWorthOf_13 : decode cX6_leastWorthOf 13 = .ok (.invokevirtual 41, 3) := by decide +kernel
theorem dX6_leastWorthOf_16 : decode cX6_leastWorthOf 16 = .ok (.if_icmp .ge 61, 3) := by decide +kernel
theorem dX6_leastWorthOf_19 : decode cX6_leastWorthOf 19 = .ok (.aload_n 1, 1) := by decide +kernel
theorem dX6_leastWorthOf_20 : decode cX6_leastWorthOf 20 = .ok (.iload 4, 2) := by decide +kernel
theorem dX6_leastWorthOf_22 : decode cX6_leastWorthOf 22 = .ok (.invokevirtual 209, 3) := by decide +kernel
theorem dX6_leastWorthOf_25 : decode cX6_leastWorthOf 25 = .ok (.ifCond .eq 46, 3) := by decide +kernel
theorem dX6_leastWorthOf_28 : decode cX6_leastWorthOf 28 = .ok (.iload_n 2, 1) := by decide +kernel
theorem dX6_leastWorthOf_29 : decode cX6_leastWorthOf 29 = .ok (.iconst (-1), 1) := by decide +kernel
theorem dX6_leastWorthOf_30 : decode cX6_leastWorthOf 30 = .ok (.if_icmp .eq 22, 3) := by decide +kernel
theorem dX6_leastWorthOf_33 : decode cX6_leastWorthOf 33 = .ok (.aload_n 0, 1) := by decide +kernel
theorem dX6_leastWorthOf_34 : decode cX6_leastWorthOf 34 = .ok (.getfield 16, 3) := by decide +kernel
theorem dX6_leastWorthOf_37 : decode cX6_leastWorthOf 37 = .ok (.iload 4, 2) := by decide +kernel
theorem dX6_leastWorthOf_39 : decode cX6_leastWorthOf 39 = .ok (.invokevirtual 84, 3) := by decide +kernel
theorem dX6_leastWorthOf_42 : decode cX6_leastWorthOf 42 = .ok (.checkcast 113, 3) := by decide +kernel
theorem dX6_leastWorthOf_45 : decode cX6_leastWorthOf 45 = .ok (.getfield 139, 3) := by decide +kernel
theorem dX6_leastWorthOf_48 : decode cX6_leastWorthOf 48 = .ok (.iload_n 3, 1) := by decide +kernel
theorem dX6_leastWorthOf_49 : decode cX6_leastWorthOf 49 = .ok (.if_icmp .ge 22, 3) := by decide +kernel
theorem dX6_leastWorthOf_52 : decode cX6_leastWorthOf 52 = .ok (.iload 4, 2) := by decide +kernel
theorem dX6_leastWorthOf_54 : decode cX6_leastWorthOf 54 = .ok (.istore_n 2, 1) := by decide +kernel
theorem dX6_leastWorthOf_55 : decode cX6_leastWorthOf 55 = .ok (.aload_n 0, 1) := by decide +kernel
theorem dX6_leastWorthOf_56 : decode cX6_leastWorthOf 56 = .ok (.getfield 16, 3) := by decide +kernel
theorem dX6_leastWorthOf_59 : decode cX6_leastWorthOf 59 = .ok (.iload 4, 2) := by decide +kernel
theorem dX6_leastWorthOf_61 : decode cX6_leastWorthOf 61 = .ok (.invokevirtual 84, 3) := by decide +kernel
theorem dX6_leastWorthOf_64 : decode cX6_leastWorthOf 64 = .ok (.checkcast 113, 3) := by decide +kernel
theorem dX6_leastWorthOf_67 : decode cX6_leastWorthOf 67 = .ok (.getfield 139, 3) := by decide +kernel
theorem dX6_leastWorthOf_70 : decode cX6_leastWorthOf 70 = .ok (.istore_n 3, 1) := by decide +kernel
theorem dX6_leastWorthOf_71 : decode cX6_leastWorthOf 71 = .ok (.iinc 4 1, 3) := by decide +kernel
theorem dX6_leastWorthOf_74 : decode cX6_leastWorthOf 74 = .ok (.goto (-67), 3) := by decide +kernel
theorem dX6_leastWorthOf_77 : decode cX6_leastWorthOf 77 = .ok (.iload_n 2, 1) := by decide +kernel
theorem dX6_leastWorthOf_78 : decode cX6_leastWorthOf 78 = .ok (.ireturn, 1) := by decide +kernel
theorem dX6_countInClub_0 : decode cX6_countInClub 0 = .ok (.iconst 0, 1) := by decide +kernel
theorem dX6_countInClub_1 : decode cX6_countInClub 1 = .ok (.istore_n 1, 1) := by decide +kernel
theorem dX6_countInClub_2 : decode cX6_countInClub 2 = .ok (.iconst 0, 1) := by decide +kernel
theorem dX6_countInClub_3 : decode cX6_countInClub 3 = .ok (.istore_n 2, 1) := by decide +kernel
theorem dX6_countInClub_4 : decode cX6_countInClub 4 = .ok (.iload_n 2, 1) := by decide +kernel
theorem dX6_countInClub_5 : decode cX6_countInClub 5 = .ok (.aload_n 0, 1) := by decide +kernel
theorem dX6_countInClub_6 : decode cX6_countInClub 6 = .ok (.getfield 10, 3) := by decide +kernel
theorem dX6_countInClub_9 : decode cX6_countInClub 9 = .ok (.invokevirtual 41, 3) := by decide +kernel
theorem dX6_countInClub_12 : decode cX6_countInClub 12 = .ok (.if_icmp .ge 29, 3) := by decide +kernel
theorem dX6_countInClub_15 : decode cX6_countInClub 15 = .ok (.aload_n 0, 1) := by decide +kernel
theorem dX6_countInClub_16 : decode cX6_countInClub 16 = .ok (.getfield 10, 3) := by decide +kernel
theorem dX6_countInClub_19 : decode cX6_countInClub 19 = .ok (.iload_n 2, 1) := by decide +kernel
theorem dX6_countInClub_20 : decode cX6_countInClub 20 = .ok (.invokevirtual 84, 3) := by decide +kernel
theorem dX6_countInClub_23 : decode cX6_countInClub 23 = .ok (.checkcast 50, 3) := by decide +kernel
theorem dX6_countInClub_26 : decode cX6_countInClub 26 = .ok (.getfield 198, 3) := by decide +kernel
theorem dX6_countInClub_29 : decode cX6_countInClub 29 = .ok (.ifCond .eq 6, 3) := by decide +kernel
theorem dX6_countInClub_32 : decode cX6_countInClub 32 = .ok (.iinc 1 1, 3) := by decide +kernel
theorem dX6_countInClub_35 : decode cX6_countInClub 35 = .ok (.iinc 2 1, 3) := by decide +kernel
theorem dX6_countInClub_38 : decode cX6_countInClub 38 = .ok (.goto (-34), 3) := by decide +kernel
theorem dX6_countInClub_41 : decode cX6_countInClub 41 = .ok (.iload_n 1, 1) := by decide +kernel
theorem dX6_countInClub_42 : decode cX6_countInClub 42 = .ok (.ireturn, 1) := by decide +kernel
theorem dX6_valueIn_0 : decode cX6_valueIn 0 = .ok (.iload_n 1, 1) := by decide +kernel
theorem dX6_valueIn_1 : decode cX6_valueIn 1 = .ok (.ifCond .lt 11, 3) := by decide +kernel
theorem dX6_valueIn_4 : decode cX6_valueIn 4 = .ok (.iload_n 1, 1) := by decide +kernel
theorem dX6_valueIn_5 : decode cX6_valueIn 5 = .ok (.getstatic 252, 3) := by decide +kernel
theorem dX6_valueIn_8 : decode cX6_valueIn 8 = .ok (.arraylength, 1) := by decide +kernel
theorem dX6_valueIn_9 : decode cX6_valueIn 9 = .ok (.if_icmp .lt 5, 3) := by decide +kernel
theorem dX6_valueIn_12 : decode cX6_valueIn 12 = .ok (.iconst 0, 1) := by decide +kernel
theorem dX6_valueIn_13 : decode cX6_valueIn 13 = .ok (.ireturn, 1) := by decide +kernel
theorem dX6_valueIn_14 : decode cX6_valueIn 14 = .ok (.getstatic 252, 3) := by decide +kernel
theorem dX6_valueIn_17 : decode cX6_valueIn 17 = .ok (.iload_n 1, 1) := by decide +kernel
theorem dX6_valueIn_18 : decode cX6_valueIn 18 = .ok (.iaload, 1) := by decide +kernel
theorem dX6_valueIn_19 : decode cX6_valueIn 19 = .ok (.istore_n 3, 1) := by decide +kernel
theorem dX6_valueIn_20 : decode cX6_valueIn 20 = .ok (.iconst 0, 1) := by decide +kernel
theorem dX6_valueIn_21 : decode cX6_valueIn 21 = .ok (.istore 4, 2) := by decide +kernel
theorem dX6_valueIn_23 : decode cX6_valueIn 23 = .ok (.iconst 0, 1) := by decide +kernel
theorem dX6_valueIn_24 : decode cX6_valueIn 24 = .ok (.istore 5, 2) := by decide +kernel
theorem dX6_valueIn_26 : decode cX6_valueIn 26 = .ok (.iload 5, 2) := by decide +kernel
theorem dX6_valueIn_28 : decode cX6_valueIn 28 = .ok (.aload_n 0, 1) := by decide +kernel
theorem dX6_valueIn_29 : decode cX6_valueIn 29 = .ok (.getfield 19, 3) := by decide +kernel
theorem dX6_valueIn_32 : decode cX6_valueIn 32 = .ok (.invokevirtual 41, 3) := by decide +kernel
theorem dX6_valueIn_35 : decode cX6_valueIn 35 = .ok (.if_icmp .ge 64, 3) := by decide +kernel
theorem dX6_valueIn_38 : decode cX6_valueIn 38 = .ok (.aload_n 0, 1) := by decide +kernel
theorem dX6_valueIn_39 : decode cX6_valueIn 39 = .ok (.getfield 19, 3) := by decide +kernel
theorem dX6_valueIn_42 : decode cX6_valueIn 42 = .ok (.iload 5, 2) := by decide +kernel
theorem dX6_valueIn_44 : decode cX6_valueIn 44 = .ok (.invokevirtual 84, 3) := by decide +kernel
theorem dX6_valueIn_47 : decode cX6_valueIn 47 = .ok (.checkcast 88, 3) := by decide +kernel
theorem dX6_valueIn_50 : decode cX6_valueIn 50 = .ok (.astore 6, 2) := by decide +kernel
theorem dX6_valueIn_52 : decode cX6_valueIn 52 = .ok (.aload 6, 2) := by decide +kernel
theorem dX6_valueIn_54 : decode cX6_valueIn 54 = .ok (.getfield 188, 3) := by decide +kernel
theorem dX6_valueIn_57 : decode cX6_valueIn 57 = .ok (.iload_n 1, 1) := by decide +kernel
theorem dX6_valueIn_58 : decode cX6_valueIn 58 = .ok (.if_icmp .ne 35, 3) := by decide +kernel
theorem dX6_valueIn_61 : decode cX6_valueIn 61 = .ok (.aload 6, 2) := by decide +kernel
theorem dX6_valueIn_63 : decode cX6_valueIn 63 = .ok (.iload_n 2, 1) := by decide +kernel
theorem dX6_valueIn_64 : decode cX6_valueIn 64 = .ok (.invokevirtual 304, 3) := by decide +kernel
theorem dX6_valueIn_67 : decode cX6_valueIn 67 = .ok (.ifCond .eq 26, 3) := by decide +kernel
theorem dX6_valueIn_70 : decode cX6_valueIn 70 = .ok (.aload 6, 2) := by decide +kernel
theorem dX6_valueIn_72 : decode cX6_valueIn 72 = .ok (.getfield 307, 3) := by decide +kernel
theorem dX6_valueIn_75 : decode cX6_valueIn 75 = .ok (.iload 4, 2) := by decide +kernel
theorem dX6_valueIn_77 : decode cX6_valueIn 77 = .ok (.if_icmp .lt 16, 3) := by decide +kernel
theorem dX6_valueIn_80 : decode cX6_valueIn 80 = .ok (.aload 6, 2) := by decide +kernel
theorem dX6_valueIn_82 : decode cX6_valueIn 82 = .ok (.getfield 191, 3) := by decide +kernel
theorem dX6_valueIn_85 : decode cX6_valueIn 85 = .ok (.istore_n 3, 1) := by decide +kernel
theorem dX6_valueIn_86 : decode cX6_valueIn 86 = .ok (.aload 6, 2) := by decide +kernel
theorem dX6_valueIn_88 : decode cX6_valueIn 88 = .ok (.getfield 307, 3) := by decide +kernel
theorem dX6_valueIn_91 : decode cX6_valueIn 91 = .ok (.istore 4, 2) := by decide +kernel
theorem dX6_valueIn_93 : decode cX6_valueIn 93 = .ok (.iinc 5 1, 3) := by decide +kernel
theorem dX6_valueIn_96 : decode cX6_valueIn 96 = .ok (.goto (-70), 3) := by decide +kernel
theorem dX6_valueIn_99 : decode cX6_valueIn 99 = .ok (.iload_n 3, 1) := by decide +kernel
theorem dX6_valueIn_100 : decode cX6_valueIn 100 = .ok (.ireturn, 1) := by decide +kernel
theorem dX6_keepInLog_0 : decode cX6_keepInLog 0 = .ok (.aload_n 0, 1) := by decide +kernel
theorem dX6_keepInLog_1 : decode cX6_keepInLog 1 = .ok (.getfield 22, 3) := by decide +kernel
theorem dX6_keepInLog_4 : decode cX6_keepInLog 4 = .ok (.aload_n 1, 1) := by decide +kernel
theorem dX6_keepInLog_5 : decode cX6_keepInLog 5 = .ok (.invokevirtual 55, 3) := by decide +kernel
theorem dX6_keepInLog_8 : decode cX6_keepInLog 8 = .ok (.pop, 1) := by decide +kernel
theorem dX6_keepInLog_9 : decode cX6_keepInLog 9 = .ok (.iconst 0, 1) := by decide +kernel
theorem dX6_keepInLog_10 : decode cX6_keepInLog 10 = .ok (.istore_n 2, 1) := by decide +kernel
theorem dX6_keepInLog_11 : decode cX6_keepInLog 11 = .ok (.iload_n 2, 1) := by decide +kernel
theorem dX6_keepInLog_12 : decode cX6_keepInLog 12 = .ok (.aload_n 0, 1) := by decide +kernel
theorem dX6_keepInLog_13 : decode cX6_keepInLog 13 = .ok (.getfield 10, 3) := by decide +kernel
theorem dX6_keepInLog_16 : decode cX6_keepInLog 16 = .ok (.invokevirtual 41, 3) := by decide +kernel
theorem dX6_keepInLog_19 : decode cX6_keepInLog 19 = .ok (.if_icmp .ge 28, 3) := by decide +kernel
theorem dX6_keepInLog_22 : decode cX6_keepInLog 22 = .ok (.aload_n 0, 1) := by decide +kernel
theorem dX6_keepInLog_23 : decode cX6_keepInLog 23 = .ok (.aload_n 1, 1) := by decide +kernel
theorem dX6_keepInLog_24 : decode cX6_keepInLog 24 = .ok (.aload_n 0, 1) := by decide +kernel
theorem dX6_keepInLog_25 : decode cX6_keepInLog 25 = .ok (.getfield 10, 3) := by decide +kernel
theorem dX6_keepInLog_28 : decode cX6_keepInLog 28 = .ok (.iload_n 2, 1) := by decide +kernel
theorem dX6_keepInLog_29 : decode cX6_keepInLog 29 = .ok (.invokevirtual 84, 3) := by decide +kernel
theorem dX6_keepInLog_32 : decode cX6_keepInLog 32 = .ok (.checkcast 50, 3) := by decide +kernel
theorem dX6_keepInLog_35 : decode cX6_keepInLog 35 = .ok (.getfield 100, 3) := by decide +kernel
theorem dX6_keepInLog_38 : decode cX6_keepInLog 38 = .ok (.invokevirtual 310, 3) := by decide +kernel
theorem dX6_keepInLog_41 : decode cX6_keepInLog 41 = .ok (.iinc 2 1, 3) := by decide +kernel
theorem dX6_keepInLog_44 : decode cX6_keepInLog 44 = .ok (.goto (-33), 3) := by decide +kernel
theorem dX6_keepInLog_47 : decode cX6_keepInLog 47 = .ok (.return_, 1) := by decide +kernel
theorem dX6_bookAnew_0 : decode cX6_bookAnew 0 = .ok (.new 105, 3) := by decide +kernel
theorem dX6_bookAnew_3 : decode cX6_bookAnew 3 = .ok (.dup, 1) := by decide +kernel
theorem dX6_bookAnew_4 : decode cX6_bookAnew 4 = .ok (.iload_n 1, 1) := by decide +kernel
theorem dX6_bookAnew_5 : decode cX6_bookAnew 5 = .ok (.invokespecial 314, 3) := by decide +kernel
theorem dX6_bookAnew_8 : decode cX6_bookAnew 8 = .ok (.astore_n 2, 1) := by decide +kernel
theorem dX6_bookAnew_9 : decode cX6_bookAnew 9 = .ok (.iconst 0, 1) := by decide +kernel
theorem dX6_bookAnew_10 : decode cX6_bookAnew 10 = .ok (.istore_n 3, 1) := by decide +kernel
theorem dX6_bookAnew_11 : decode cX6_bookAnew 11 = .ok (.iload_n 3, 1) := by decide +kernel
theorem dX6_bookAnew_12 : decode cX6_bookAnew 12 = .ok (.aload_n 0, 1) := by decide +kernel
theorem dX6_bookAnew_13 : decode cX6_bookAnew 13 = .ok (.getfield 22, 3) := by decide +kernel
theorem dX6_bookAnew_16 : decode cX6_bookAnew 16 = .ok (.invokevirtual 41, 3) := by decide +kernel
theorem dX6_bookAnew_19 : decode cX6_bookAnew 19 = .ok (.if_icmp .ge 25, 3) := by decide +kernel
theorem dX6_bookAnew_22 : decode cX6_bookAnew 22 = .ok (.aload_n 0, 1) := by decide +kernel
theorem dX6_bookAnew_23 : decode cX6_bookAnew 23 = .ok (.aload_n 0, 1) := by decide +kernel
theorem dX6_bookAnew_24 : decode cX6_bookAnew 24 = .ok (.getfield 22, 3) := by decide +kernel
theorem dX6_bookAnew_27 : decode cX6_bookAnew 27 = .ok (.iload_n 3, 1) := by decide +kernel
theorem dX6_bookAnew_28 : decode cX6_bookAnew 28 = .ok (.invokevirtual 84, 3) := by decide +kernel
theorem dX6_bookAnew_31 : decode cX6_bookAnew 31 = .ok (.checkcast 66, 3) := by decide +kernel
theorem dX6_bookAnew_34 : decode cX6_bookAnew 34 = .ok (.aload_n 2, 1) := by decide +kernel
theorem dX6_bookAnew_35 : decode cX6_bookAnew 35 = .ok (.invokevirtual 310, 3) := by decide +kernel
theorem dX6_bookAnew_38 : decode cX6_bookAnew 38 = .ok (.iinc 3 1, 3) := by decide +kernel
theorem dX6_bookAnew_41 : decode cX6_bookAnew 41 = .ok (.goto (-30), 3) := by decide +kernel
theorem dX6_bookAnew_44 : decode cX6_bookAnew 44 = .ok (.aload_n 2, 1) := by decide +kernel
theorem dX6_bookAnew_45 : decode cX6_bookAnew 45 = .ok (.areturn, 1) := by decide +kernel
theorem dX6_enter_0 : decode cX6_enter 0 = .ok (.aload_n 2, 1) := by decide +kernel
theorem dX6_enter_1 : decode cX6_enter 1 = .ok (.getfield 315, 3) := by decide +kernel
theorem dX6_enter_4 : decode cX6_enter 4 = .ok (.aload_n 1, 1) := by decide +kernel
theorem dX6_enter_5 : decode cX6_enter 5 = .ok (.getfield 318, 3) := by decide +kernel
theorem dX6_enter_8 : decode cX6_enter 8 = .ok (.if_icmp .ne 20, 3) := by decide +kernel
theorem dX6_enter_11 : decode cX6_enter 11 = .ok (.aload_n 2, 1) := by decide +kernel
theorem dX6_enter_12 : decode cX6_enter 12 = .ok (.dup, 1) := by decide +kernel
theorem dX6_enter_13 : decode cX6_enter 13 = .ok (.getfield 104, 3) := by decide +kernel
theorem dX6_enter_16 : decode cX6_enter 16 = .ok (.aload_n 0, 1) := by decide +kernel
theorem dX6_enter_17 : decode cX6_enter 17 = .ok (.aload_n 1, 1) := by decide +kernel
theorem dX6_enter_18 : decode cX6_enter 18 = .ok (.invokevirtual 152, 3) := by decide +kernel
theorem dX6_enter_21 : decode cX6_enter 21 = .ok (.isub, 1) := by decide +kernel
theorem dX6_enter_22 : decode cX6_enter 22 = .ok (.putfield 104, 3) := by decide +kernel
theorem dX6_enter_25 : decode cX6_enter 25 = .ok (.goto 28, 3) := by decide +kernel
theorem dX6_enter_28 : decode cX6_enter 28 = .ok (.aload_n 2, 1) := by decide +kernel
theorem dX6_enter_29 : decode cX6_enter 29 = .ok (.getfield 315, 3) := by decide +kernel
theorem dX6_enter_32 : decode cX6_enter 32 = .ok (.aload_n 1, 1) := by decide +kernel
theorem dX6_enter_33 : decode cX6_enter 33 = .ok (.getfield 275, 3) := by decide +kernel
theorem dX6_enter_36 : decode cX6_enter 36 = .ok (.if_icmp .ne 17, 3) := by decide +kernel
theorem dX6_enter_39 : decode cX6_enter 39 = .ok (.aload_n 2, 1) := by decide +kernel
theorem dX6_enter_40 : decode cX6_enter 40 = .ok (.dup, 1) := by decide +kernel
theorem dX6_enter_41 : decode cX6_enter 41 = .ok (.getfield 104, 3) := by decide +kernel
theorem dX6_enter_44 : decode cX6_enter 44 = .ok (.aload_n 0, 1) := by decide +kernel
theorem dX6_enter_45 : decode cX6_enter 45 = .ok (.aload_n 1, 1) := by decide +kernel
theorem dX6_enter_46 : decode cX6_enter 46 = .ok (.invokevirtual 152, 3) := by decide +kernel
theorem dX6_enter_49 : decode cX6_enter 49 = .ok (.iadd, 1) := by decide +kernel
theorem dX6_enter_50 : decode cX6_enter 50 = .ok (.putfield 104, 3) := by decide +kernel
theorem dX6_enter_53 : decode cX6_enter 53 = .ok (.aload_n 1, 1) := by decide +kernel
theorem dX6_enter_54 : decode cX6_enter 54 = .ok (.getfield 142, 3) := by decide +kernel
theorem dX6_enter_57 : decode cX6_enter 57 = .ok (.getstatic 145, 3) := by decide +kernel
theorem dX6_enter_60 : decode cX6_enter 60 = .ok (.if_acmp .ne 11, 3) := by decide +kernel
theorem dX6_enter_63 : decode cX6_enter 63 = .ok (.aload_n 2, 1) := by decide +kernel
theorem dX6_enter_64 : decode cX6_enter 64 = .ok (.aload_n 1, 1) := by decide +kernel
theorem dX6_enter_65 : decode cX6_enter 65 = .ok (.invokevirtual 321, 3) := by decide +kernel
theorem dX6_enter_68 : decode cX6_enter 68 = .ok (.goto 21, 3) := by decide +kernel
theorem dX6_enter_71 : decode cX6_enter 71 = .ok (.aload_n 1, 1) := by decide +kernel
theorem dX6_enter_72 : decode cX6_enter 72 = .ok (.getfield 142, 3) := by decide +kernel
theorem dX6_enter_75 : decode cX6_enter 75 = .ok (.getstatic 68, 3) := by decide +kernel
theorem dX6_enter_78 : decode cX6_enter 78 = .ok (.if_acmp .ne 11, 3) := by decide +kernel
theorem dX6_enter_81 : decode cX6_enter 81 = .ok (.aload_n 2, 1) := by decide +kernel
theorem dX6_enter_82 : decode cX6_enter 82 = .ok (.aload_n 1, 1) := by decide +kernel
theorem dX6_enter_83 : decode cX6_enter 83 = .ok (.getfield 318, 3) := by decide +kernel
theorem dX6_enter_86 : decode cX6_enter 86 = .ok (.invokevirtual 324, 3) := by decide +kernel
theorem dX6_enter_89 : decode cX6_enter 89 = .ok (.return_, 1) := by decide +kernel
theorem dX6_costOf_0 : decode cX6_costOf 0 = .ok (.aload_n 1, 1) := by decide +kernel
theorem dX6_costOf_1 : decode cX6_costOf 1 = .ok (.getfield 142, 3) := by decide +kernel
theorem dX6_costOf_4 : decode cX6_costOf 4 = .ok (.getstatic 265, 3) := by decide +kernel
theorem dX6_costOf_7 : decode cX6_costOf 7 = .ok (.if_acmp .ne 18, 3) := by decide +kernel
theorem dX6_costOf_10 : decode cX6_costOf 10 = .ok (.aload_n 1, 1) := by decide +kernel
theorem dX6_costOf_11 : decode cX6_costOf 11 = .ok (.getfield 327, 3) := by decide +kernel
theorem dX6_costOf_14 : decode cX6_costOf 14 = .ok (.aload_n 0, 1) := by decide +kernel
theorem dX6_costOf_15 : decode cX6_costOf 15 = .ok (.iconst 2, 1) := by decide +kernel
theorem dX6_costOf_16 : decode cX6_costOf 16 = .ok (.aload_n 1, 1) := by decide +kernel
theorem dX6_costOf_17 : decode cX6_costOf 17 = .ok (.getfield 330, 3) := by decide +kernel
theorem dX6_costOf_20 : decode cX6_costOf 20 = .ok (.invokevirtual 181, 3) := by decide +kernel
theorem dX6_costOf_23 : decode cX6_costOf 23 = .ok (.imul, 1) := by decide +kernel
theorem dX6_costOf_24 : decode cX6_costOf 24 = .ok (.ireturn, 1) := by decide +kernel
theorem dX6_costOf_25 : decode cX6_costOf 25 = .ok (.aload_n 1, 1) := by decide +kernel
theorem dX6_costOf_26 : decode cX6_costOf 26 = .ok (.getfield 142, 3) := by decide +kernel
theorem dX6_costOf_29 : decode cX6_costOf 29 = .ok (.getstatic 145, 3) := by decide +kernel
theorem dX6_costOf_32 : decode cX6_costOf 32 = .ok (.if_acmp .ne 34, 3) := by decide +kernel
theorem dX6_costOf_35 : decode cX6_costOf 35 = .ok (.aload_n 1, 1) := by decide +kernel
theorem dX6_costOf_36 : decode cX6_costOf 36 = .ok (.getfield 330, 3) := by decide +kernel
theorem dX6_costOf_39 : decode cX6_costOf 39 = .ok (.invokestatic 333, 3) := by decide +kernel
theorem dX6_costOf_42 : decode cX6_costOf 42 = .ok (.ifCond .eq 7, 3) := by decide +kernel
theorem dX6_costOf_45 : decode cX6_costOf 45 = .ok (.iconst 0, 1) := by decide +kernel
theorem dX6_costOf_46 : decode cX6_costOf 46 = .ok (.goto 4, 3) := by decide +kernel
theorem dX6_costOf_49 : decode cX6_costOf 49 = .ok (.iconst 1, 1) := by decide +kernel
theorem dX6_costOf_50 : decode cX6_costOf 50 = .ok (.istore_n 2, 1) := by decide +kernel
theorem dX6_costOf_51 : decode cX6_costOf 51 = .ok (.aload_n 1, 1) := by decide +kernel
theorem dX6_costOf_52 : decode cX6_costOf 52 = .ok (.getfield 327, 3) := by decide +kernel
theorem dX6_costOf_55 : decode cX6_costOf 55 = .ok (.aload_n 0, 1) := by decide +kernel
theorem dX6_costOf_56 : decode cX6_costOf 56 = .ok (.iload_n 2, 1) := by decide +kernel
theorem dX6_costOf_57 : decode cX6_costOf 57 = .ok (.aload_n 1, 1) := by decide +kernel
theorem dX6_costOf_58 : decode cX6_costOf 58 = .ok (.getfield 330, 3) := by decide +kernel
theorem dX6_costOf_61 : decode cX6_costOf 61 = .ok (.invokevirtual 181, 3) := by decide +kernel
theorem dX6_costOf_64 : decode cX6_costOf 64 = .ok (.imul, 1) := by decide +kernel
theorem dX6_costOf_65 : decode cX6_costOf 65 = .ok (.ireturn, 1) := by decide +kernel
theorem dX6_costOf_66 : decode cX6_costOf 66 = .ok (.iconst 0, 1) := by decide +kernel
theorem dX6_costOf_67 : decode cX6_costOf 67 = .ok (.ireturn, 1) := by decide +kernel
theorem dX6_isEvening_0 : decode cX6_isEvening 0 = .ok (.iload_n 0, 1) := by decide +kernel
theorem dX6_isEvening_1 : decode cX6_isEvening 1 = .ok (.bipush 24, 2) := by decide +kernel
theorem dX6_isEvening_3 : decode cX6_isEvening 3 = .ok (.irem, 1) := by decide +kernel
theorem dX6_isEvening_4 : decode cX6_isEvening 4 = .ok (.istore_n 1, 1) := by decide +kernel
theorem dX6_isEvening_5 : decode cX6_isEvening 5 = .ok (.iload_n 1, 1) := by decide +kernel
theorem dX6_isEvening_6 : decode cX6_isEvening 6 = .ok (.bipush 18, 2) := by decide +kernel
theorem dX6_isEvening_8 : decode cX6_isEvening 8 = .ok (.if_icmp .lt 13, 3) := by decide +kernel
theorem dX6_isEvening_11 : decode cX6_isEvening 11 = .ok (.iload_n 1, 1) := by decide +kernel
theorem dX6_isEvening_12 : decode cX6_isEvening 12 = .ok (.bipush 22, 2) := by decide +kernel
theorem dX6_isEvening_14 : decode cX6_isEvening 14 = .ok (.if_icmp .gt 7, 3) := by decide +kernel
theorem dX6_isEvening_17 : decode cX6_isEvening 17 = .ok (.iconst 1, 1) := by decide +kernel
theorem dX6_isEvening_18 : decode cX6_isEvening 18 = .ok (.goto 4, 3) := by decide +kernel
theorem dX6_isEvening_21 : decode cX6_isEvening 21 = .ok (.iconst 0, 1) := by decide +kernel
theorem dX6_isEvening_22 : decode cX6_isEvening 22 = .ok (.ireturn, 1) := by decide +kernel
theorem dX6_tellMember_0 : decode cX6_tellMember 0 = .ok (.aload_n 1, 1) := by decide +kernel
theorem dX6_tellMember_1 : decode cX6_tellMember 1 = .ok (.getfield 262, 3) := by decide +kernel
theorem dX6_tellMember_4 : decode cX6_tellMember 4 = .ok (.aload_n 2, 1) := by decide +kernel
theorem dX6_tellMember_5 : decode cX6_tellMember 5 = .ok (.invokestatic 336, 3) := by decide +kernel
theorem dX6_tellMember_8 : decode cX6_tellMember 8 = .ok (.iconst 0, 1) := by decide +kernel
theorem dX6_tellMember_9 : decode cX6_tellMember 9 = .ok (.istore_n 3, 1) := by decide +kernel
theorem dX6_tellMember_10 : decode cX6_tellMember 10 = .ok (.iload_n 3, 1) := by decide +kernel
theorem dX6_tellMember_11 : decode cX6_tellMember 11 = .ok (.aload_n 0, 1) := by decide +kernel
theorem dX6_tellMember_12 : decode cX6_tellMember 12 = .ok (.getfield 16, 3) := by decide +kernel
theorem dX6_tellMember_15 : decode cX6_tellMember 15 = .ok (.invokevirtual 41, 3) := by decide +kernel
theorem dX6_tellMember_18 : decode cX6_tellMember 18 = .ok (.if_icmp .ge 42, 3) := by decide +kernel
theorem dX6_tellMember_21 : decode cX6_tellMember 21 = .ok (.aload_n 1, 1) := by decide +kernel
theorem dX6_tellMember_22 : decode cX6_tellMember 22 = .ok (.iload_n 3, 1) := by decide +kernel
theorem dX6_tellMember_23 : decode cX6_tellMember 23 = .ok (.invokevirtual 209, 3) := by decide +kernel
theorem dX6_tellMember_26 : decode cX6_tellMember 26 = .ok (.ifCond .eq 28, 3) := by decide +kernel
theorem dX6_tellMember_29 : decode cX6_tellMember 29 = .ok (.aload_n 2, 1) := by decide +kernel
theorem dX6_tellMember_30 : decode cX6_tellMember 30 = .ok (.bipush 44, 2) := by decide +kernel
theorem dX6_tellMember_32 : decode cX6_tellMember 32 = .ok (.invokevirtual 340, 3) := by decide +kernel
theorem dX6_tellMember_35 : decode cX6_tellMember 35 = .ok (.pop, 1) := by decide +kernel
theorem dX6_tellMember_36 : decode cX6_tellMember 36 = .ok (.aload_n 0, 1) := by decide +kernel
theorem dX6_tellMember_37 : decode cX6_tellMember 37 = .ok (.getfield 16, 3) := by decide +kernel
theorem dX6_tellMember_40 : decode cX6_tellMember 40 = .ok (.iload_n 3, 1) := by decide +kernel
theorem dX6_tellMember_41 : decode cX6_tellMember 41 = .ok (.invokevirtual 84, 3) := by decide +kernel
theorem dX6_tellMember_44 : decode cX6_tellMember 44 = .ok (.checkcast 113, 3) := by decide +kernel
theorem dX6_tellMember_47 : decode cX6_tellMember 47 = .ok (.getfield 124, 3) := by decide +kernel
theorem dX6_tellMember_50 : decode cX6_tellMember 50 = .ok (.aload_n 2, 1) := by decide +kernel
theorem dX6_tellMember_51 : decode cX6_tellMember 51 = .ok (.invokestatic 336, 3) := by decide +kernel
theorem dX6_tellMember_54 : decode cX6_tellMember 54 = .ok (.iinc 3 1, 3) := by decide +kernel
theorem dX6_tellMember_57 : decode cX6_tellMember 57 = .ok (.goto (-47), 3) := by decide +kernel
theorem dX6_tellMember_60 : decode cX6_tellMember 60 = .ok (.aload_n 2, 1) := by decide +kernel
theorem dX6_tellMember_61 : decode cX6_tellMember 61 = .ok (.bipush 59, 2) := by decide +kernel
theorem dX6_tellMember_63 : decode cX6_tellMember 63 = .ok (.invokevirtual 340, 3) := by decide +kernel
theorem dX6_tellMember_66 : decode cX6_tellMember 66 = .ok (.pop, 1) := by decide +kernel
theorem dX6_tellMember_67 : decode cX6_tellMember 67 = .ok (.return_, 1) := by decide +kernel
theorem dX6_tellNumber_0 : decode cX6_tellNumber 0 = .ok (.iload_n 0, 1) := by decide +kernel
theorem dX6_tellNumber_1 : decode cX6_tellNumber 1 = .ok (.bipush 10, 2) := by decide +kernel
theorem dX6_tellNumber_3 : decode cX6_tellNumber 3 = .ok (.if_icmp .lt 16, 3) := by decide +kernel
theorem dX6_tellNumber_6 : decode cX6_tellNumber 6 = .ok (.aload_n 1, 1) := by decide +kernel
theorem dX6_tellNumber_7 : decode cX6_tellNumber 7 = .ok (.bipush 48, 2) := by decide +kernel
theorem dX6_tellNumber_9 : decode cX6_tellNumber 9 = .ok (.iload_n 0, 1) := by decide +kernel
theorem dX6_tellNumber_10 : decode cX6_tellNumber 10 = .ok (.bipush 10, 2) := by decide +kernel
theorem dX6_tellNumber_12 : decode cX6_tellNumber 12 = .ok (.idiv, 1) := by decide +kernel
theorem dX6_tellNumber_13 : decode cX6_tellNumber 13 = .ok (.iadd, 1) := by decide +kernel
theorem dX6_tellNumber_14 : decode cX6_tellNumber 14 = .ok (.i2c, 1) := by decide +kernel
theorem dX6_tellNumber_15 : decode cX6_tellNumber 15 = .ok (.invokevirtual 340, 3) := by decide +kernel
theorem dX6_tellNumber_18 : decode cX6_tellNumber 18 = .ok (.pop, 1) := by decide +kernel
theorem dX6_tellNumber_19 : decode cX6_tellNumber 19 = .ok (.aload_n 1, 1) := by decide +kernel
theorem dX6_tellNumber_20 : decode cX6_tellNumber 20 = .ok (.bipush 48, 2) := by decide +kernel
theorem dX6_tellNumber_22 : decode cX6_tellNumber 22 = .ok (.iload_n 0, 1) := by decide +kernel
theorem dX6_tellNumber_23 : decode cX6_tellNumber 23 = .ok (.bipush 10, 2) := by decide +kernel
theorem dX6_tellNumber_25 : decode cX6_tellNumber 25 = .ok (.irem, 1) := by decide +kernel
theorem dX6_tellNumber_26 : decode cX6_tellNumber 26 = .ok (.iadd, 1) := by decide +kernel
theorem dX6_tellNumber_27 : decode cX6_tellNumber 27 = .ok (.i2c, 1) := by decide +kernel
theorem dX6_tellNumber_28 : decode cX6_tellNumber 28 = .ok (.invokevirtual 340, 3) := by decide +kernel
theorem dX6_tellNumber_31 : decode cX6_tellNumber 31 = .ok (.pop, 1) := by decide +kernel
theorem dX6_tellNumber_32 : decode cX6_tellNumber 32 = .ok (.return_, 1) := by decide +kernel
end
section
theorem dX7_init_0 : decode cX7_init 0 = .ok (.aload_n 0, 1) := by decide +kernel
theorem dX7_init_1 : decode cX7_init 1 = .ok (.invokespecial 1, 3) := by decide +kernel
theorem dX7_init_4 : decode cX7_init 4 = .ok (.aload_n 0, 1) := by decide +kernel
theorem dX7_init_5 : decode cX7_init 5 = .ok (.bipush 10, 2) := by decide +kernel
theorem dX7_init_7 : decode cX7_init 7 = .ok (.newarray .boolean, 2) := by decide +kernel
theorem dX7_init_9 : decode cX7_init 9 = .ok (.putfield 7, 3) := by decide +kernel
theorem dX7_init_12 : decode cX7_init 12 = .ok (.aload_n 0, 1) := by decide +kernel
theorem dX7_init_13 : decode cX7_init 13 = .ok (.bipush 10, 2) := by decide +kernel
theorem dX7_init_15 : decode cX7_init 15 = .ok (.newarray .int, 2) := by decide +kernel
theorem dX7_init_17 : decode cX7_init 17 = .ok (.putfield 13, 3) := by decide +kernel
theorem dX7_init_20 : decode cX7_init 20 = .ok (.aload_n 0, 1) := by decide +kernel
theorem dX7_init_21 : decode cX7_init 21 = .ok (.bipush 10, 2) := by decide +kernel
theorem dX7_init_23 : decode cX7_init 23 = .ok (.newarray .int, 2) := by decide +kernel
theorem dX7_init_25 : decode cX7_init 25 = .ok (.putfield 17, 3) := by decide +kernel
theorem dX7_init_28 : decode cX7_init 28 = .ok (.aload_n 0, 1) := by decide +kernel
theorem dX7_init_29 : decode cX7_init 29 = .ok (.bipush 10, 2) := by decide +kernel
theorem dX7_init_31 : decode cX7_init 31 = .ok (.newarray .int, 2) := by decide +kernel
theorem dX7_init_33 : decode cX7_init 33 = .ok (.putfield 20, 3) := by decide +kernel
theorem dX7_init_36 : decode cX7_init 36 = .ok (.aload_n 0, 1) := by decide +kernel
theorem dX7_init_37 : decode cX7_init 37 = .ok (.bipush 10, 2) := by decide +kernel
theorem dX7_init_39 : decode cX7_init 39 = .ok (.newarray .int, 2) := by decide +kernel
theorem dX7_init_41 : decode cX7_init 41 = .ok (.putfield 23, 3) := by decide +kernel
theorem dX7_init_44 : decode cX7_init 44 = .ok (.aload_n 0, 1) := by decide +kernel
theorem dX7_init_45 : decode cX7_init 45 = .ok (.bipush 10, 2) := by decide +kernel
theorem dX7_init_47 : decode cX7_init 47 = .ok (.newarray .int, 2) := by decide +kernel
theorem dX7_init_49 : decode cX7_init 49 = .ok (.putfield 26, 3) := by decide +kernel
theorem dX7_init_52 : decode cX7_init 52 = .ok (.aload_n 0, 1) := by decide +kernel
theorem dX7_init_53 : decode cX7_init 53 = .ok (.bipush 100, 2) := by decide +kernel
theorem dX7_init_55 : decode cX7_init 55 = .ok (.newarray .int, 2) := by decide +kernel
theorem dX7_init_57 : decode cX7_init 57 = .ok (.putfield 29, 3) := by decide +kernel
theorem dX7_init_60 : decode cX7_init 60 = .ok (.aload_n 0, 1) := by decide +kernel
theorem dX7_init_61 : decode cX7_init 61 = .ok (.bipush 20, 2) := by decide +kernel
theorem dX7_init_63 : decode cX7_init 63 = .ok (.newarray .int, 2) := by decide +kernel
theorem dX7_init_65 : decode cX7_init 65 = .ok (.putfield 32, 3) := by decide +kernel
theorem dX7_init_68 : decode cX7_init 68 = .ok (.aload_n 0, 1) := by decide +kernel
theorem dX7_init_69 : decode cX7_init 69 = .ok (.bipush 20, 2) := by decide +kernel
theorem dX7_init_71 : decode cX7_init 71 = .ok (.newarray .int, 2) := by decide +kernel
theorem dX7_init_73 : decode cX7_init 73 = .ok (.putfield 35, 3) := by decide +kernel
theorem dX7_init_76 : decode cX7_init 76 = .ok (.aload_n 0, 1) := by decide +kernel
theorem dX7_init_77 : decode cX7_init 77 = .ok (.sipush 200, 3) := by decide +kernel
theorem dX7_init_80 : decode cX7_init 80 = .ok (.newarray .boolean, 2) := by decide +kernel
theorem dX7_init_82 : decode cX7_init 82 = .ok (.putfield 38, 3) := by decide +kernel
theorem dX7_init_85 : decode cX7_init 85 = .ok (.aload_n 0, 1) := by decide +kernel
theorem dX7_init_86 : decode cX7_init 86 = .ok (.bipush 30, 2) := by decide +kernel
theorem dX7_init_88 : decode cX7_init 88 = .ok (.newarray .int, 2) := by decide +kernel
theorem dX7_init_90 : decode cX7_init 90 = .ok (.putfield 41, 3) := by decide +kernel
theorem dX7_init_93 : decode cX7_init 93 = .ok (.aload_n 0, 1) := by decide +kernel
theorem dX7_init_94 : decode cX7_init 94 = .ok (.bipush 30, 2) := by decide +kernel
theorem dX7_init_96 : decode cX7_init 96 = .ok (.newarray .int, 2) := by decide +kernel
theorem dX7_init_98 : decode cX7_init 98 = .ok (.putfield 44, 3) := by decide +kernel
theorem dX7_init_101 : decode cX7_init 101 = .ok (.aload_n 0, 1) := by decide +kernel
theorem dX7_init_102 : decode cX7_init 102 = .ok (.bipush 30, 2) := by decide +kernel
theorem dX7_init_104 : decode cX7_init 104 = .ok (.newarray .int, 2) := by decide +kernel
theorem dX7_init_106 : decode cX7_init 106 = .ok (.putfield 47, 3) := by decide +kernel
theorem dX7_init_109 : decode cX7_init 109 = .ok (.aload_n 0, 1) := by decide +kernel
theorem dX7_init_110 : decode cX7_init 110 = .ok (.bipush 30, 2) := by decide +kernel
theorem dX7_init_112 : decode cX7_init 112 = .ok (.newarray .int, 2) := by decide +kernel
theorem dX7_init_114 : decode cX7_init 114 = .ok (.putfield 50, 3) := by decide +kernel
theorem dX7_init_117 : decode cX7_init 117 = .ok (.aload_n 0, 1) := by decide +kernel
theorem dX7_init_118 : decode cX7_init 118 = .ok (.sipush 300, 3) := by decide +kernel
theorem dX7_init_121 : decode cX7_init 121 = .ok (.newarray .int, 2) := by decide +kernel
theorem dX7_init_123 : decode cX7_init 123 = .ok (.putfield 53, 3) := by decide +kernel
theorem dX7_init_126 : decode cX7_init 126 = .ok (.aload_n 0, 1) := by decide +kernel
theorem dX7_init_127 : decode cX7_init 127 = .ok (.bipush 30, 2) := by decide +kernel
theorem dX7_init_129 : decode cX7_init 129 = .ok (.newarray .int, 2) := by decide +kernel
theorem dX7_init_131 : decode cX7_init 131 = .ok (.putfield 56, 3) := by decide +kernel
theorem dX7_init_134 : decode cX7_init 134 = .ok (.aload_n 0, 1) := by decide +kernel
theorem dX7_init_135 : decode cX7_init 135 = .ok (.bipush 30, 2) := by decide +kernel
theorem dX7_init_137 : decode cX7_init 137 = .ok (.newarray .int, 2) := by decide +kernel
theorem dX7_init_139 : decode cX7_init 139 = .ok (.putfield 59, 3) := by decide +kernel
theorem dX7_init_142 : decode cX7_init 142 = .ok (.return_, 1) := by decide +kernel
theorem dX7_thrown_0 : decode cX7_thrown 0 = .ok (.aload_n 0, 1) := by decide +kernel
theorem dX7_thrown_1 : decode cX7_thrown 1 = .ok (.getfield 62, 3) := by decide +kernel
theorem dX7_thrown_4 : decode cX7_thrown 4 = .ok (.ireturn, 1) := by decide +kernel
theorem dX7_in_0 : decode cX7_in 0 = .ok (.iload_n 0, 1) := by decide +kernel
theorem dX7_in_1 : decode cX7_in 1 = .ok (.iload_n 1, 1) := by decide +kernel
theorem dX7_in_2 : decode cX7_in 2 = .ok (.if_icmp .lt 12, 3) := by decide +kernel
theorem dX7_in_5 : decode cX7_in 5 = .ok (.iload_n 0, 1) := by decide +kernel
theorem dX7_in_6 : decode cX7_in 6 = .ok (.iload_n 2, 1) := by decide +kernel
theorem dX7_in_7 : decode cX7_in 7 = .ok (.if_icmp .gt 7, 3) := by decide +kernel
theorem dX7_in_10 : decode cX7_in 10 = .ok (.iconst 1, 1) := by decide +kernel
theorem dX7_in_11 : decode cX7_in 11 = .ok (.goto 4, 3) := by decide +kernel
theorem dX7_in_14 : decode cX7_in 14 = .ok (.iconst 0, 1) := by decide +kernel
theorem dX7_in_15 : decode cX7_in 15 = .ok (.ireturn, 1) := by decide +kernel
theorem dX7_refused_0 : decode cX7_refused 0 = .ok (.aload_n 0, 1) := by decide +kernel
theorem dX7_refused_1 : decode cX7_refused 1 = .ok (.iload_n 1, 1) := by decide +kernel
theorem dX7_refused_2 : decode cX7_refused 2 = .ok (.putfield 62, 3) := by decide +kernel
theorem dX7_refused_5 : decode cX7_refused 5 = .ok (.iload_n 1, 1) := by decide +kernel
theorem dX7_refused_6 : decode cX7_refused 6 = .ok (.ifCond .eq 7, 3) := by decide +kernel
theorem dX7_refused_9 : decode cX7_refused 9 = .ok (.iconst 1, 1) := by decide +kernel
theorem dX7_refused_10 : decode cX7_refused 10 = .ok (.goto 4, 3) := by decide +kernel
theorem dX7_refused_13 : decode cX7_refused 13 = .ok (.iconst 0, 1) := by decide +kernel
theorem dX7_refused_14 : decode cX7_refused 14 = .ok (.ireturn, 1) := by decide +kernel
theorem dX7_isMember_0 : decode cX7_isMember 0 = .ok (.iload_n 1, 1) := by decide +kernel
theorem dX7_isMember_1 : decode cX7_isMember 1 = .ok (.iconst 0, 1) := by decide +kernel
theorem dX7_isMember_2 : decode cX7_isMember 2 = .ok (.aload_n 0, 1) := by decide +kernel
theorem dX7_isMember_3 : decode cX7_isMember 3 = .ok (.getfield 66, 3) := by decide +kernel
theorem dX7_isMember_6 : decode cX7_isMember 6 = .ok (.iconst 1, 1) := by decide +kernel
theorem dX7_isMember_7 : decode cX7_isMember 7 = .ok (.isub, 1) := by decide +kernel
theorem dX7_isMember_8 : decode cX7_isMember 8 = .ok (.invokestatic 69, 3) := by decide +kernel
theorem dX7_isMember_11 : decode cX7_isMember 11 = .ok (.ireturn, 1) := by decide +kernel
theorem dX7_isFilm_0 : decode cX7_isFilm 0 = .ok (.iload_n 1, 1) := by decide +kernel
theorem dX7_isFilm_1 : decode cX7_isFilm 1 = .ok (.iconst 0, 1) := by decide +kernel
theorem dX7_isFilm_2 : decode cX7_isFilm 2 = .ok (.aload_n 0, 1) := by decide +kernel
theorem dX7_isFilm_3 : decode cX7_isFilm 3 = .ok (.getfield 73, 3) := by decide +kernel
theorem dX7_isFilm_6 : decode cX7_isFilm 6 = .ok (.iconst 1, 1) := by decide +kernel
theorem dX7_isFilm_7 : decode cX7_isFilm 7 = .ok (.isub, 1) := by decide +kernel
theorem dX7_isFilm_8 : decode cX7_isFilm 8 = .ok (.invokestatic 69, 3) := by decide +kernel
theorem dX7_isFilm_11 : decode cX7_isFilm 11 = .ok (.ireturn, 1) := by decide +kernel
theorem dX7_isRule_0 : decode cX7_isRule 0 = .ok (.iload_n 0, 1) := by decide +kernel
theorem dX7_isRule_1 : decode cX7_isRule 1 = .ok (.iconst 0, 1) := by decide +kernel
theorem dX7_isRule_2 : decode cX7_isRule 2 = .ok (.iconst 2, 1) := by decide +kernel
theorem dX7_isRule_3 : decode cX7_isRule 3 = .ok (.invokestatic 69, 3) := by decide +kernel
theorem dX7_isRule_6 : decode cX7_isRule 6 = .ok (.ireturn, 1) := by decide +kernel
theorem dX7_valueOf_0 : decode cX7_valueOf 0 = .ok (.iconst (-1), 1) := by decide +kernel
theorem dX7_valueOf_1 : decode cX7_valueOf 1 = .ok (.istore_n 2, 1) := by decide +kernel
theorem dX7_valueOf_2 : decode cX7_valueOf 2 = .ok (.iconst 0, 1) := by decide +kernel
theorem dX7_valueOf_3 : decode cX7_valueOf 3 = .ok (.istore_n 3, 1) := by decide +kernel
theorem dX7_valueOf_4 : decode cX7_valueOf 4 = .ok (.iload_n 3, 1) := by decide +kernel
theorem dX7_valueOf_5 : decode cX7_valueOf 5 = .ok (.aload_n 0, 1) := by decide +kernel
theorem dX7_valueOf_6 : decode cX7_valueOf 6 = .ok (.getfield 76, 3) := by decide +kernel
theorem dX7_valueOf_9 : decode cX7_valueOf 9 = .ok (.if_icmp .ge 80, 3) := by decide +kernel
theorem dX7_valueOf_12 : decode cX7_valueOf 12 = .ok (.aload_n 0, 1) := by decide +kernel
theorem dX7_valueOf_13 : decode cX7_valueOf 13 = .ok (.getfield 41, 3) := by decide +kernel
theorem dX7_valueOf_16 : decode cX7_valueOf 16 = .ok (.iload_n 3, 1) := by decide +kernel
theorem dX7_valueOf_17 : decode cX7_valueOf 17 = .ok (.iaload, 1) := by decide +kernel
theorem dX7_valueOf_18 : decode cX7_valueOf 18 = .ok (.iconst 1, 1) := by decide +kernel
theorem dX7_valueOf_19 : decode cX7_valueOf 19 = .ok (.if_icmp .ne 30, 3) := by decide +kernel
theorem dX7_valueOf_22 : decode cX7_valueOf 22 = .ok (.aload_n 0, 1) := by decide +kernel
theorem dX7_valueOf_23 : decode cX7_valueOf 23 = .ok (.getfield 44, 3) := by decide +kernel
theorem dX7_valueOf_26 : decode cX7_valueOf 26 = .ok (.iload_n 3, 1) := by decide +kernel
theorem dX7_valueOf_27 : decode cX7_valueOf 27 = .ok (.iaload, 1) := by decide +kernel
theorem dX7_valueOf_28 : decode cX7_valueOf 28 = .ok (.iload_n 1, 1) := by decide +kernel
theorem dX7_valueOf_29 : decode cX7_valueOf 29 = .ok (.if_icmp .ne 20, 3) := by decide +kernel
theorem dX7_valueOf_32 : decode cX7_valueOf 32 = .ok (.aload_n 0, 1) := by decide +kernel
theorem dX7_valueOf_33 : decode cX7_valueOf 33 = .ok (.getfield 50, 3) := by decide +kernel
theorem dX7_valueOf_36 : decode cX7_valueOf 36 = .ok (.iload_n 3, 1) := by decide +kernel
theorem dX7_valueOf_37 : decode cX7_valueOf 37 = .ok (.iaload, 1) := by decide +kernel
theorem dX7_valueOf_38 : decode cX7_valueOf 38 = .ok (.aload_n 0, 1) := by decide +kernel
theorem dX7_valueOf_39 : decode cX7_valueOf 39 = .ok (.getfield 79, 3) := by decide +kernel
theorem dX7_valueOf_42 : decode cX7_valueOf 42 = .ok (.if_icmp .gt 7, 3) := by decide +kernel
theorem dX7_valueOf_45 : decode cX7_valueOf 45 = .ok (.iconst 1, 1) := by decide +kernel
theorem dX7_valueOf_46 : decode cX7_valueOf 46 = .ok (.goto 4, 3) := by decide +kernel
theorem dX7_valueOf_49 : decode cX7_valueOf 49 = .ok (.iconst 0, 1) := by decide +kernel
theorem dX7_valueOf_50 : decode cX7_valueOf 50 = .ok (.istore 4, 2) := by decide +kernel
theorem dX7_valueOf_52 : decode cX7_valueOf 52 = .ok (.iload 4, 2) := by decide +kernel
theorem dX7_valueOf_54 : decode cX7_valueOf 54 = .ok (.ifCond .eq 27, 3) := by decide +kernel
theorem dX7_valueOf_57 : decode cX7_valueOf 57 = .ok (.iload_n 2, 1) := by decide +kernel
theorem dX7_valueOf_58 : decode cX7_valueOf 58 = .ok (.iconst (-1), 1) := by decide +kernel
theorem dX7_valueOf_59 : decode cX7_valueOf 59 = .ok (.if_icmp .eq 18, 3) := by decide +kernel
theorem dX7_valueOf_62 : decode cX7_valueOf 62 = .ok (.aload_n 0, 1) := by decide +kernel
theorem dX7_valueOf_63 : decode cX7_valueOf 63 = .ok (.getfield 50, 3) := by decide +kernel
theorem dX7_valueOf_66 : decode cX7_valueOf 66 = .ok (.iload_n 3, 1) := by decide +kernel
theorem dX7_valueOf_67 : decode cX7_valueOf 67 = .ok (.iaload, 1) := by decide +kernel
theorem dX7_valueOf_68 : decode cX7_valueOf 68 = .ok (.aload_n 0, 1) := by decide +kernel
theorem dX7_valueOf_69 : decode cX7_valueOf 69 = .ok (.getfield 50, 3) := by decide +kernel
theorem dX7_valueOf_72 : decode cX7_valueOf 72 = .ok (.iload_n 2, 1) := by decide +kernel
theorem dX7_valueOf_73 : decode cX7_valueOf 73 = .ok (.iaload, 1) := by decide +kernel
theorem dX7_valueOf_74 : decode cX7_valueOf 74 = .ok (.if_icmp .lt 7, 3) := by decide +kernel
theorem dX7_valueOf_77 : decode cX7_valueOf 77 = .ok (.iload_n 3, 1) := by decide +kernel
theorem dX7_valueOf_78 : decode cX7_valueOf 78 = .ok (.goto 4, 3) := by decide +kernel
theorem dX7_valueOf_81 : decode cX7_valueOf 81 = .ok (.iload_n 2, 1) := by decide +kernel
theorem dX7_valueOf_82 : decode cX7_valueOf 82 = .ok (.istore_n 2, 1) := by decide +kernel
theorem dX7_valueOf_83 : decode cX7_valueOf 83 = .ok (.iinc 3 1, 3) := by decide +kernel
theorem dX7_valueOf_86 : decode cX7_valueOf 86 = .ok (.goto (-82), 3) := by decide +kernel
theorem dX7_valueOf_89 : decode cX7_valueOf 89 = .ok (.iload_n 2, 1) := by decide +kernel
theorem dX7_valueOf_90 : decode cX7_valueOf 90 = .ok (.iconst (-1), 1) := by decide +kernel
theorem dX7_valueOf_91 : decode cX7_valueOf 91 = .ok (.if_icmp .eq 12, 3) := by decide +kernel
theorem dX7_valueOf_94 : decode cX7_valueOf 94 = .ok (.aload_n 0, 1) := by decide +kernel
theorem dX7_valueOf_95 : decode cX7_valueOf 95 = .ok (.getfield 47, 3) := by decide +kernel
theorem dX7_valueOf_98 : decode cX7_valueOf 98 = .ok (.iload_n 2, 1) := by decide +kernel
theorem dX7_valueOf_99 : decode cX7_valueOf 99 = .ok (.iaload, 1) := by decide +kernel
theorem dX7_valueOf_100 : decode cX7_valueOf 100 = .ok (.goto 21, 3) := by decide +kernel
theorem dX7_valueOf_103 : decode cX7_valueOf 103 = .ok (.iload_n 1, 1) := by decide +kernel
theorem dX7_valueOf_104 : decode cX7_valueOf 104 = .ok (.ifCond .ne 7, 3) := by decide +kernel
theorem dX7_valueOf_107 : decode cX7_valueOf 107 = .ok (.iconst 4, 1) := by decide +kernel
theorem dX7_valueOf_108 : decode cX7_valueOf 108 = .ok (.goto 13, 3) := by decide +kernel
theorem dX7_valueOf_111 : decode cX7_valueOf 111 = .ok (.iload_n 1, 1) := by decide +kernel
theorem dX7_valueOf_112 : decode cX7_valueOf 112 = .ok (.iconst 1, 1) := by decide +kernel
theorem dX7_valueOf_113 : decode cX7_valueOf 113 = .ok (.if_icmp .ne 7, 3) := by decide +kernel
theorem dX7_valueOf_116 : decode cX7_valueOf 116 = .ok (.iconst 2, 1) := by decide +kernel
theorem dX7_valueOf_117 : decode cX7_valueOf 117 = .ok (.goto 4, 3) := by decide +kernel
theorem dX7_valueOf_120 : decode cX7_valueOf 120 = .ok (.iconst 1, 1) := by decide +kernel
theorem dX7_valueOf_121 : decode cX7_valueOf 121 = .ok (.ireturn, 1) := by decide +kernel
theorem dX7_price_0 : decode cX7_price 0 = .ok (.aload_n 0, 1) := by decide +kernel
theorem dX7_price_1 : decode cX7_price 1 = .ok (.aload_n 0, 1) := by decide +kernel
theorem dX7_price_2 : decode cX7_price 2 = .ok (.getfield 79, 3) := by decide +kernel
theorem dX7_price_5 : decode cX7_price 5 = .ok (.bipush 24, 2) := by decide +kernel
theorem dX7_price_7 : decode cX7_price 7 = .ok (.irem, 1) := by decide +kernel
theorem dX7_price_8 : decode cX7_price 8 = .ok (.bipush 18, 2) := by decide +kernel
theorem dX7_price_10 : decode cX7_price 10 = .ok (.bipush 22, 2) := by decide +kernel
theorem dX7_price_12 : decode cX7_price 12 = .ok (.invokestatic 69, 3) := by decide +kernel
theorem dX7_price_15 : decode cX7_price 15 = .ok (.ifCond .eq 7, 3) := by decide +kernel
theorem dX7_price_18 : decode cX7_price 18 = .ok (.iconst 0, 1) := by decide +kernel
theorem dX7_price_19 : decode cX7_price 19 = .ok (.goto 4, 3) := by decide +kernel
theorem dX7_price_22 : decode cX7_price 22 = .ok (.iconst 1, 1) := by decide +kernel
theorem dX7_price_23 : decode cX7_price 23 = .ok (.invokevirtual 82, 3) := by decide +kernel
theorem dX7_price_26 : decode cX7_price 26 = .ok (.ireturn, 1) := by decide +kernel
theorem dX7_many_0 : decode cX7_many 0 = .ok (.iconst 0, 1) := by decide +kernel
theorem dX7_many_1 : decode cX7_many 1 = .ok (.istore_n 1, 1) := by decide +kernel
theorem dX7_many_2 : decode cX7_many 2 = .ok (.iconst 0, 1) := by decide +kernel
theorem dX7_many_3 : decode cX7_many 3 = .ok (.istore_n 2, 1) := by decide +kernel
theorem dX7_many_4 : decode cX7_many 4 = .ok (.iload_n 2, 1) := by decide +kernel
theorem dX7_many_5 : decode cX7_many 5 = .ok (.aload_n 0, 1) := by decide +kernel
theorem dX7_many_6 : decode cX7_many 6 = .ok (.getfield 66, 3) := by decide +kernel
theorem dX7_many_9 : decode cX7_many 9 = .ok (.if_icmp .ge 26, 3) := by decide +kernel
theorem dX7_many_12 : decode cX7_many 12 = .ok (.iload_n 1, 1) := by decide +kernel
theorem dX7_many_13 : decode cX7_many 13 = .ok (.aload_n 0, 1) := by decide +kernel
theorem dX7_many_14 : decode cX7_many 14 = .ok (.getfield 7, 3) := by decide +kernel
theorem dX7_many_17 : decode cX7_many 17 = .ok (.iload_n 2, 1) := by decide +kernel
theorem dX7_many_18 : decode cX7_many 18 = .ok (.baload, 1) := by decide +kernel
theorem dX7_many_19 : decode cX7_many 19 = .ok (.ifCond .eq 7, 3) := by decide +kernel
theorem dX7_many_22 : decode cX7_many 22 = .ok (.iconst 1, 1) := by decide +kernel
theorem dX7_many_23 : decode cX7_many 23 = .ok (.goto 4, 3) := by decide +kernel
theorem dX7_many_26 : decode cX7_many 26 = .ok (.iconst 0, 1) := by decide +kernel
theorem dX7_many_27 : decode cX7_many 27 = .ok (.iadd, 1) := by decide +kernel
theorem dX7_many_28 : decode cX7_many 28 = .ok (.istore_n 1, 1) := by decide +kernel
theorem dX7_many_29 : decode cX7_many 29 = .ok (.iinc 2 1, 3) := by decide +kernel
theorem dX7_many_32 : decode cX7_many 32 = .ok (.goto (-28), 3) := by decide +kernel
theorem dX7_many_35 : decode cX7_many 35 = .ok (.iload_n 1, 1) := by decide +kernel
theorem dX7_many_36 : decode cX7_many 36 = .ok (.ireturn, 1) := by decide +kernel
theorem dX7_voted_0 : decode cX7_voted 0 = .ok (.iconst 0, 1) := by decide +kernel
theorem dX7_voted_1 : decode cX7_voted 1 = .ok (.istore_n 3, 1) := by decide +kernel
theorem dX7_voted_2 : decode cX7_voted 2 = .ok (.iconst 0, 1) := by decide +kernel
theorem dX7_voted_3 : decode cX7_voted 3 = .ok (.istore 4, 2) := by decide +kernel
theorem dX7_voted_5 : decode cX7_voted 5 = .ok (.iload 4, 2) := by decide +kernel
theorem dX7_voted_7 : decode cX7_voted 7 = .ok (.aload_n 0, 1) := by decide +kernel
theorem dX7_voted_8 : decode cX7_voted 8 = .ok (.getfield 66, 3) := by decide +kernel
theorem dX7_voted_11 : decode cX7_voted 11 = .ok (.if_icmp .ge 43, 3) := by decide +kernel
theorem dX7_voted_14 : decode cX7_voted 14 = .ok (.iload_n 3, 1) := by decide +kernel
theorem dX7_voted_15 : decode cX7_voted 15 = .ok (.aload_n 0, 1) := by decide +kernel
theorem dX7_voted_16 : decode cX7_voted 16 = .ok (.getfield 7, 3) := by decide +kernel
theorem dX7_voted_19 : decode cX7_voted 19 = .ok (.iload 4, 2) := by decide +kernel
theorem dX7_voted_21 : decode cX7_voted 21 = .ok (.baload, 1) := by decide +kernel
theorem dX7_voted_22 : decode cX7_voted 22 = .ok (.ifCond .eq 23, 3) := by decide +kernel
theorem dX7_voted_25 : decode cX7_voted 25 = .ok (.aload_n 0, 1) := by decide +kernel
theorem dX7_voted_26 : decode cX7_voted 26 = .ok (.getfield 53, 3) := by decide +kernel
theorem dX7_voted_29 : decode cX7_voted 29 = .ok (.bipush 10, 2) := by decide +kernel
theorem dX7_voted_31 : decode cX7_voted 31 = .ok (.iload_n 1, 1) := by decide +kernel
theorem dX7_voted_32 : decode cX7_voted 32 = .ok (.imul, 1) := by decide +kernel
theorem dX7_voted_33 : decode cX7_voted 33 = .ok (.iload 4, 2) := by decide +kernel
theorem dX7_voted_35 : decode cX7_voted 35 = .ok (.iadd, 1) := by decide +kernel
theorem dX7_voted_36 : decode cX7_voted 36 = .ok (.iaload, 1) := by decide +kernel
theorem dX7_voted_37 : decode cX7_voted 37 = .ok (.iload_n 2, 1) := by decide +kernel
theorem dX7_voted_38 : decode cX7_voted 38 = .ok (.if_icmp .ne 7, 3) := by decide +kernel
theorem dX7_voted_41 : decode cX7_voted 41 = .ok (.iconst 1, 1) := by decide +kernel
theorem dX7_voted_42 : decode cX7_voted 42 = .ok (.goto 4, 3) := by decide +kernel
theorem dX7_voted_45 : decode cX7_voted 45 = .ok (.iconst 0, 1) := by decide +kernel
theorem dX7_voted_46 : decode cX7_voted 46 = .ok (.iadd, 1) := by decide +kernel
theorem dX7_voted_47 : decode cX7_voted 47 = .ok (.istore_n 3, 1) := by decide +kernel
theorem dX7_voted_48 : decode cX7_voted 48 = .ok (.iinc 4 1, 3) := by decide +kernel
theorem dX7_voted_51 : decode cX7_voted 51 = .ok (.goto (-46), 3) := by decide +kernel
theorem dX7_voted_54 : decode cX7_voted 54 = .ok (.iload_n 3, 1) := by decide +kernel
theorem dX7_voted_55 : decode cX7_voted 55 = .ok (.ireturn, 1) := by decide +kernel
theorem dX7_decide_0 : decode cX7_decide 0 = .ok (.aload_n 0, 1) := by decide +kernel
theorem dX7_decide_1 : decode cX7_decide 1 = .ok (.iload_n 1, 1) := by decide +kernel
theorem dX7_decide_2 : decode cX7_decide 2 = .ok (.iconst 1, 1) := by decide +kernel
theorem dX7_decide_3 : decode cX7_decide 3 = .ok (.invokevirtual 86, 3) := by decide +kernel
theorem dX7_decide_6 : decode cX7_decide 6 = .ok (.istore_n 2, 1) := by decide +kernel
theorem dX7_decide_7 : decode cX7_decide 7 = .ok (.aload_n 0, 1) := by decide +kernel
theorem dX7_decide_8 : decode cX7_decide 8 = .ok (.iload_n 1, 1) := by decide +kernel
theorem dX7_decide_9 : decode cX7_decide 9 = .ok (.iconst 2, 1) := by decide +kernel
theorem dX7_decide_10 : decode cX7_decide 10 = .ok (.invokevirtual 86, 3) := by decide +kernel
theorem dX7_decide_13 : decode cX7_decide 13 = .ok (.istore_n 3, 1) := by decide +kernel
theorem dX7_decide_14 : decode cX7_decide 14 = .ok (.iconst 2, 1) := by decide +kernel
theorem dX7_decide_15 : decode cX7_decide 15 = .ok (.iload_n 2, 1) := by decide +kernel
theorem dX7_decide_16 : decode cX7_decide 16 = .ok (.imul, 1) := by decide +kernel
theorem dX7_decide_17 : decode cX7_decide 17 = .ok (.aload_n 0, 1) := by decide +kernel
theorem dX7_decide_18 : decode cX7_decide 18 = .ok (.invokevirtual 90, 3) := by decide +kernel
theorem dX7_decide_21 : decode cX7_decide 21 = .ok (.if_icmp .le 25, 3) := by decide +kernel
theorem dX7_decide_24 : decode cX7_decide 24 = .ok (.aload_n 0, 1) := by decide +kernel
theorem dX7_decide_25 : decode cX7_decide 25 = .ok (.getfield 41, 3) := by decide +kernel
theorem dX7_decide_28 : decode cX7_decide 28 = .ok (.iload_n 1, 1) := by decide +kernel
theorem dX7_decide_29 : decode cX7_decide 29 = .ok (.iconst 1, 1) := by decide +kernel
theorem dX7_decide_30 : decode cX7_decide 30 = .ok (.iastore, 1) := by decide +kernel
theorem dX7_decide_31 : decode cX7_decide 31 = .ok (.aload_n 0, 1) := by decide +kernel
theorem dX7_decide_32 : decode cX7_decide 32 = .ok (.getfield 50, 3) := by decide +kernel
theorem dX7_decide_35 : decode cX7_decide 35 = .ok (.iload_n 1, 1) := by decide +kernel
theorem dX7_decide_36 : decode cX7_decide 36 = .ok (.aload_n 0, 1) := by decide +kernel
theorem dX7_decide_37 : decode cX7_decide 37 = .ok (.getfield 79, 3) := by decide +kernel
theorem dX7_decide_40 : decode cX7_decide 40 = .ok (.iconst 1, 1) := by decide +kernel
theorem dX7_decide_41 : decode cX7_decide 41 = .ok (.iadd, 1) := by decide +kernel
theorem dX7_decide_42 : decode cX7_decide 42 = .ok (.iastore, 1) := by decide +kernel
theorem dX7_decide_43 : decode cX7_decide 43 = .ok (.goto 27, 3) := by decide +kernel
theorem dX7_decide_46 : decode cX7_decide 46 = .ok (.aload_n 0, 1) := by decide +kernel
theorem dX7_decide_47 : decode cX7_decide 47 = .ok (.invokevirtual 90, 3) := by decide +kernel
theorem dX7_decide_50 : decode cX7_decide 50 = .ok (.ifCond .le 20, 3) := by decide +kernel
theorem dX7_decide_53 : decode cX7_decide 53 = .ok (.iconst 2, 1) := by decide +kernel
theorem dX7_decide_54 : decode cX7_decide 54 = .ok (.iload_n 3, 1) := by decide +kernel
theorem dX7_decide_55 : decode cX7_decide 55 = .ok (.imul, 1) := by decide +kernel
theorem dX7_decide_56 : decode cX7_decide 56 = .ok (.aload_n 0, 1) := by decide +kernel
theorem dX7_decide_57 : decode cX7_decide 57 = .ok (.invokevirtual 90, 3) := by decide +kernel
theorem dX7_decide_60 : decode cX7_decide 60 = .ok (.if_icmp .lt 10, 3) := by decide +kernel
theorem dX7_decide_63 : decode cX7_decide 63 = .ok (.aload_n 0, 1) := by decide +kernel
theorem dX7_decide_64 : decode cX7_decide 64 = .ok (.getfield 41, 3) := by decide +kernel
theorem dX7_decide_67 : decode cX7_decide 67 = .ok (.iload_n 1, 1) := by decide +kernel
theorem dX7_decide_68 : decode cX7_decide 68 = .ok (.iconst 2, 1) := by decide +kernel
theorem dX7_decide_69 : decode cX7_decide 69 = .ok (.iastore, 1) := by decide +kernel
theorem dX7_decide_70 : decode cX7_decide 70 = .ok (.aload_n 0, 1) := by decide +kernel
theorem dX7_decide_71 : decode cX7_decide 71 = .ok (.getfield 56, 3) := by decide +kernel
theorem dX7_decide_74 : decode cX7_decide 74 = .ok (.iload_n 1, 1) := by decide +kernel
theorem dX7_decide_75 : decode cX7_decide 75 = .ok (.iload_n 2, 1) := by decide +kernel
theorem dX7_decide_76 : decode cX7_decide 76 = .ok (.iastore, 1) := by decide +kernel
theorem dX7_decide_77 : decode cX7_decide 77 = .ok (.aload_n 0, 1) := by decide +kernel
theorem dX7_decide_78 : decode cX7_decide 78 = .ok (.getfield 59, 3) := by decide +kernel
theorem dX7_decide_81 : decode cX7_decide 81 = .ok (.iload_n 1, 1) := by decide +kernel
theorem dX7_decide_82 : decode cX7_decide 82 = .ok (.iload_n 3, 1) := by decide +kernel
theorem dX7_decide_83 : decode cX7_decide 83 = .ok (.iastore, 1) := by decide +kernel
theorem dX7_decide_84 : decode cX7_decide 84 = .ok (.return_, 1) := by decide +kernel
theorem dX7_join_0 : decode cX7_join 0 = .ok (.aload_n 0, 1) := by decide +kernel
theorem dX7_join_1 : decode cX7_join 1 = .ok (.iload_n 1, 1) := by decide +kernel
theorem dX7_join_2 : decode cX7_join 2 = .ok (.iconst 1, 1) := by decide +kernel
theorem dX7_join_3 : decode cX7_join 3 = .ok (.bipush 20, 2) := by decide +kernel
theorem dX7_join_5 : decode cX7_join 5 = .ok (.invokestatic 69, 3) := by decide +kernel
theorem dX7_join_8 : decode cX7_join 8 = .ok (.ifCond .eq 13, 3) := by decide +kernel
theorem dX7_join_11 : decode cX7_join 11 = .ok (.iload_n 2, 1) := by decide +kernel
theorem dX7_join_12 : decode cX7_join 12 = .ok (.iconst 0, 1) := by decide +kernel
theorem dX7_join_13 : decode cX7_join 13 = .ok (.bipush 50, 2) := by decide +kernel
theorem dX7_join_15 : decode cX7_join 15 = .ok (.invokestatic 69, 3) := by decide +kernel
theorem dX7_join_18 : decode cX7_join 18 = .ok (.ifCond .ne 7, 3) := by decide +kernel
theorem dX7_join_21 : decode cX7_join 21 = .ok (.iconst 1, 1) := by decide +kernel
theorem dX7_join_22 : decode cX7_join 22 = .ok (.goto 17, 3) := by decide +kernel
theorem dX7_join_25 : decode cX7_join 25 = .ok (.aload_n 0, 1) := by decide +kernel
theorem dX7_join_26 : decode cX7_join 26 = .ok (.getfield 66, 3) := by decide +kernel
theorem dX7_join_29 : decode cX7_join 29 = .ok (.bipush 10, 2) := by decide +kernel
theorem dX7_join_31 : decode cX7_join 31 = .ok (.if_icmp .ne 7, 3) := by decide +kernel
theorem dX7_join_34 : decode cX7_join 34 = .ok (.iconst 2, 1) := by decide +kernel
theorem dX7_join_35 : decode cX7_join 35 = .ok (.goto 4, 3) := by decide +kernel
theorem dX7_join_38 : decode cX7_join 38 = .ok (.iconst 0, 1) := by decide +kernel
theorem dX7_join_39 : decode cX7_join 39 = .ok (.invokevirtual 94, 3) := by decide +kernel
theorem dX7_join_42 : decode cX7_join 42 = .ok (.ifCond .eq 5, 3) := by decide +kernel
theorem dX7_join_45 : decode cX7_join 45 = .ok (.iconst 0, 1) := by decide +kernel
theorem dX7_join_46 : decode cX7_join 46 = .ok (.ireturn, 1) := by decide +kernel
theorem dX7_join_47 : decode cX7_join 47 = .ok (.aload_n 0, 1) := by decide +kernel
theorem dX7_join_48 : decode cX7_join 48 = .ok (.getfield 7, 3) := by decide +kernel
theorem dX7_join_51 : decode cX7_join 51 = .ok (.aload_n 0, 1) := by decide +kernel
theorem dX7_join_52 : decode cX7_join 52 = .ok (.getfield 66, 3) := by decide +kernel
theorem dX7_join_55 : decode cX7_join 55 = .ok (.iconst 1, 1) := by decide +kernel
theorem dX7_join_56 : decode cX7_join 56 = .ok (.bastore, 1) := by decide +kernel
theorem dX7_join_57 : decode cX7_join 57 = .ok (.aload_n 0, 1) := by decide +kernel
theorem dX7_join_58 : decode cX7_join 58 = .ok (.getfield 13, 3) := by decide +kernel
theorem dX7_join_61 : decode cX7_join 61 = .ok (.aload_n 0, 1) := by decide +kernel
theorem dX7_join_62 : decode cX7_join 62 = .ok (.getfield 66, 3) := by decide +kernel
theorem dX7_join_65 : decode cX7_join 65 = .ok (.iload_n 1, 1) := by decide +kernel
theorem dX7_join_66 : decode cX7_join 66 = .ok (.iastore, 1) := by decide +kernel
theorem dX7_join_67 : decode cX7_join 67 = .ok (.aload_n 0, 1) := by decide +kernel
theorem dX7_join_68 : decode cX7_join 68 = .ok (.getfield 17, 3) := by decide +kernel
theorem dX7_join_71 : decode cX7_join 71 = .ok (.aload_n 0, 1) := by decide +kernel
theorem dX7_join_72 : decode cX7_join 72 = .ok (.getfield 66, 3) := by decide +kernel
theorem dX7_join_75 : decode cX7_join 75 = .ok (.iload_n 1, 1) := by decide +kernel
theorem dX7_join_76 : decode cX7_join 76 = .ok (.iastore, 1) := by decide +kernel
theorem dX7_join_77 : decode cX7_join 77 = .ok (.aload_n 0, 1) := by decide +kernel
theorem dX7_join_78 : decode cX7_join 78 = .ok (.getfield 20, 3) := by decide +kernel
theorem dX7_join_81 : decode cX7_join 81 = .ok (.aload_n 0, 1) := by decide +kernel
theorem dX7_join_82 : decode cX7_join 82 = .ok (.getfield 66, 3) := by decide +kernel
theorem dX7_join_85 : decode cX7_join 85 = .ok (.iload_n 2, 1) := by decide +kernel
theorem dX7_join_86 : decode cX7_join 86 = .ok (.iastore, 1) := by decide +kernel
theorem dX7_join_87 : decode cX7_join 87 = .ok (.aload_n 0, 1) := by decide +kernel
theorem dX7_join_88 : decode cX7_join 88 = .ok (.dup, 1) := by decide +kernel
theorem dX7_join_89 : decode cX7_join 89 = .ok (.getfield 66, 3) := by decide +kernel
theorem dX7_join_92 : decode cX7_join 92 = .ok (.iconst 1, 1) := by decide +kernel
theorem dX7_join_93 : decode cX7_join 93 = .ok (.iadd, 1) := by decide +kernel
theorem dX7_join_94 : decode cX7_join 94 = .ok (.putfield 66, 3) := by decide +kernel
theorem dX7_join_97 : decode cX7_join 97 = .ok (.aload_n 0, 1) := by decide +kernel
theorem dX7_join_98 : decode cX7_join 98 = .ok (.getfield 66, 3) := by decide +kernel
theorem dX7_join_101 : decode cX7_join 101 = .ok (.iconst 1, 1) := by decide +kernel
theorem dX7_join_102 : decode cX7_join 102 = .ok (.isub, 1) := by decide +kernel
theorem dX7_join_103 : decode cX7_join 103 = .ok (.ireturn, 1) := by decide +kernel
theorem dX7_leave_0 : decode cX7_leave 0 = .ok (.aload_n 0, 1) := by decide +kernel
theorem dX7_leave_1 : decode cX7_leave 1 = .ok (.iload_n 1, 1) := by decide +kernel
theorem dX7_leave_2 : decode cX7_leave 2 = .ok (.invokevirtual 98, 3) := by decide +kernel
theorem dX7_leave_5 : decode cX7_leave 5 = .ok (.istore_n 2, 1) := by decide +kernel
theorem dX7_leave_6 : decode cX7_leave 6 = .ok (.aload_n 0, 1) := by decide +kernel
theorem dX7_leave_7 : decode cX7_leave 7 = .ok (.iload_n 2, 1) := by decide +kernel
theorem dX7_leave_8 : decode cX7_leave 8 = .ok (.ifCond .ne 7, 3) := by decide +kernel
theorem dX7_leave_11 : decode cX7_leave 11 = .ok (.iconst 1, 1) := by decide +kernel
theorem dX7_leave_12 : decode cX7_leave 12 = .ok (.goto 17, 3) := by decide +kernel
theorem dX7_leave_15 : decode cX7_leave 15 = .ok (.aload_n 0, 1) := by decide +kernel
theorem dX7_leave_16 : decode cX7_leave 16 = .ok (.getfield 7, 3) := by decide +kernel
theorem dX7_leave_19 : decode cX7_leave 19 = .ok (.iload_n 1, 1) := by decide +kernel
theorem dX7_leave_20 : decode cX7_leave 20 = .ok (.baload, 1) := by decide +kernel
theorem dX7_leave_21 : decode cX7_leave 21 = .ok (.ifCond .ne 7, 3) := by decide +kernel
theorem dX7_leave_24 : decode cX7_leave 24 = .ok (.iconst 2, 1) := by decide +kernel
theorem dX7_leave_25 : decode cX7_leave 25 = .ok (.goto 4, 3) := by decide +kernel
theorem dX7_leave_28 : decode cX7_leave 28 = .ok (.iconst 0, 1) := by decide +kernel
theorem dX7_leave_29 : decode cX7_leave 29 = .ok (.invokevirtual 94, 3) := by decide +kernel
theorem dX7_leave_32 : decode cX7_leave 32 = .ok (.ifCond .eq 5, 3) := by decide +kernel
theorem dX7_leave_35 : decode cX7_leave 35 = .ok (.iconst 0, 1) := by decide +kernel
theorem dX7_leave_36 : decode cX7_leave 36 = .ok (.ireturn, 1) := by decide +kernel
theorem dX7_leave_37 : decode cX7_leave 37 = .ok (.aload_n 0, 1) := by decide +kernel
theorem dX7_leave_38 : decode cX7_leave 38 = .ok (.getfield 7, 3) := by decide +kernel
theorem dX7_leave_41 : decode cX7_leave 41 = .ok (.iload_n 1, 1) := by decide +kernel
theorem dX7_leave_42 : decode cX7_leave 42 = .ok (.iconst 0, 1) := by decide +kernel
theorem dX7_leave_43 : decode cX7_leave 43 = .ok (.bastore, 1) := by decide +kernel
theorem dX7_leave_44 : decode cX7_leave 44 = .ok (.iconst 0, 1) := by decide +kernel
theorem dX7_leave_45 : decode cX7_leave 45 = .ok (.istore_n 3, 1) := by decide +kernel
theorem dX7_leave_46 : decode cX7_leave 46 = .ok (.iload_n 3, 1) := by decide +kernel
theorem dX7_leave_47 : decode cX7_leave 47 = .ok (.aload_n 0, 1) := by decide +kernel
theorem dX7_leave_48 : decode cX7_leave 48 = .ok (.getfield 66, 3) := by decide +kernel
theorem dX7_leave_51 : decode cX7_leave 51 = .ok (.if_icmp .ge 80, 3) := by decide +kernel
theorem dX7_leave_54 : decode cX7_leave 54 = .ok (.aload_n 0, 1) := by decide +kernel
theorem dX7_leave_55 : decode cX7_leave 55 = .ok (.getfield 29, 3) := by decide +kernel
theorem dX7_leave_58 : decode cX7_leave 58 = .ok (.bipush 10, 2) := by decide +kernel
theorem dX7_leave_60 : decode cX7_leave 60 = .ok (.iload_n 1, 1) := by decide +kernel
theorem dX7_leave_61 : decode cX7_leave 61 = .ok (.imul, 1) := by decide +kernel
theorem dX7_leave_62 : decode cX7_leave 62 = .ok (.iload_n 3, 1) := by decide +kernel
theorem dX7_leave_63 : decode cX7_leave 63 = .ok (.iadd, 1) := by decide +kernel
theorem dX7_leave_64 : decode cX7_leave 64 = .ok (.iaload, 1) := by decide +kernel
theorem dX7_leave_65 : decode cX7_leave 65 = .ok (.aload_n 0, 1) := by decide +kernel
theorem dX7_leave_66 : decode cX7_leave 66 = .ok (.getfield 29, 3) := by decide +kernel
theorem dX7_leave_69 : decode cX7_leave 69 = .ok (.bipush 10, 2) := by decide +kernel
theorem dX7_leave_71 : decode cX7_leave 71 = .ok (.iload_n 3, 1) := by decide +kernel
theorem dX7_leave_72 : decode cX7_leave 72 = .ok (.imul, 1) := by decide +kernel
theorem dX7_leave_73 : decode cX7_leave 73 = .ok (.iload_n 1, 1) := by decide +kernel
theorem dX7_leave_74 : decode cX7_leave 74 = .ok (.iadd, 1) := by decide +kernel
theorem dX7_leave_75 : decode cX7_leave 75 = .ok (.iaload, 1) := by decide +kernel
theorem dX7_leave_76 : decode cX7_leave 76 = .ok (.isub, 1) := by decide +kernel
theorem dX7_leave_77 : decode cX7_leave 77 = .ok (.istore 4, 2) := by decide +kernel
theorem dX7_leave_79 : decode cX7_leave 79 = .ok (.aload_n 0, 1) := by decide +kernel
theorem dX7_leave_80 : decode cX7_leave 80 = .ok (.getfield 23, 3) := by decide +kernel
theorem dX7_leave_83 : decode cX7_leave 83 = .ok (.iload_n 1, 1) := by decide +kernel
theorem dX7_leave_84 : decode cX7_leave 84 = .ok (.dup2, 1) := by decide +kernel
theorem dX7_leave_85 : decode cX7_leave 85 = .ok (.iaload, 1) := by decide +kernel
theorem dX7_leave_86 : decode cX7_leave 86 = .ok (.iload 4, 2) := by decide +kernel
theorem dX7_leave_88 : decode cX7_leave 88 = .ok (.isub, 1) := by decide +kernel
theorem dX7_leave_89 : decode cX7_leave 89 = .ok (.iastore, 1) := by decide +kernel
theorem dX7_leave_90 : decode cX7_leave 90 = .ok (.aload_n 0, 1) := by decide +kernel
theorem dX7_leave_91 : decode cX7_leave 91 = .ok (.getfield 23, 3) := by decide +kernel
theorem dX7_leave_94 : decode cX7_leave 94 = .ok (.iload_n 3, 1) := by decide +kernel
theorem dX7_leave_95 : decode cX7_leave 95 = .ok (.dup2, 1) := by decide +kernel
theorem dX7_leave_96 : decode cX7_leave 96 = .ok (.iaload, 1) := by decide +kernel
theorem dX7_leave_97 : decode cX7_leave 97 = .ok (.iload 4, 2) := by decide +kernel
theorem dX7_leave_99 : decode cX7_leave 99 = .ok (.iadd, 1) := by decide +kernel
theorem dX7_leave_100 : decode cX7_leave 100 = .ok (.iastore, 1) := by decide +kernel
theorem dX7_leave_101 : decode cX7_leave 101 = .ok (.aload_n 0, 1) := by decide +kernel
theorem dX7_leave_102 : decode cX7_leave 102 = .ok (.getfield 29, 3) := by decide +kernel
theorem dX7_leave_105 : decode cX7_leave 105 = .ok (.bipush 10, 2) := by decide +kernel
theorem dX7_leave_107 : decode cX7_leave 107 = .ok (.iload_n 1, 1) := by decide +kernel
theorem dX7_leave_108 : decode cX7_leave 108 = .ok (.imul, 1) := by decide +kernel
theorem dX7_leave_109 : decode cX7_leave 109 = .ok (.iload_n 3, 1) := by decide +kernel
theorem dX7_leave_110 : decode cX7_leave 110 = .ok (.iadd, 1) := by decide +kernel
theorem dX7_leave_111 : decode cX7_leave 111 = .ok (.iconst 0, 1) := by decide +kernel
theorem dX7_leave_112 : decode cX7_leave 112 = .ok (.iastore, 1) := by decide +kernel
theorem dX7_leave_113 : decode cX7_leave 113 = .ok (.aload_n 0, 1) := by decide +kernel
theorem dX7_leave_114 : decode cX7_leave 114 = .ok (.getfield 29, 3) := by decide +kernel
theorem dX7_leave_117 : decode cX7_leave 117 = .ok (.bipush 10, 2) := by decide +kernel
theorem dX7_leave_119 : decode cX7_leave 119 = .ok (.iload_n 3, 1) := by decide +kernel
theorem dX7_leave_120 : decode cX7_leave 120 = .ok (.imul, 1) := by decide +kernel
theorem dX7_leave_121 : decode cX7_leave 121 = .ok (.iload_n 1, 1) := by decide +kernel
theorem dX7_leave_122 : decode cX7_leave 122 = .ok (.iadd, 1) := by decide +kernel
theorem dX7_leave_123 : decode cX7_leave 123 = .ok (.iconst 0, 1) := by decide +kernel
theorem dX7_leave_124 : decode cX7_leave 124 = .ok (.iastore, 1) := by decide +kernel
theorem dX7_leave_125 : decode cX7_leave 125 = .ok (.iinc 3 1, 3) := by decide +kernel
theorem dX7_leave_128 : decode cX7_leave 128 = .ok (.goto (-82), 3) := by decide +kernel
theorem dX7_leave_131 : decode cX7_leave 131 = .ok (.iconst 0, 1) := by decide +kernel
theorem dX7_leave_132 : decode cX7_leave 132 = .ok (.istore_n 3, 1) := by decide +kernel
theorem dX7_leave_133 : decode cX7_leave 133 = .ok (.iload_n 3, 1) := by decide +kernel
theorem dX7_leave_134 : decode cX7_leave 134 = .ok (.bipush 20, 2) := by decide +kernel
theorem dX7_leave_136 : decode cX7_leave 136 = .ok (.if_icmp .ge 21, 3) := by decide +kernel
theorem dX7_leave_139 : decode cX7_leave 139 = .ok (.aload_n 0, 1) := by decide +kernel
theorem dX7_leave_140 : decode cX7_leave 140 = .ok (.getfield 38, 3) := by decide +kernel
theorem dX7_leave_143 : decode cX7_leave 143 = .ok (.bipush 20, 2) := by decide +kernel
theorem dX7_leave_145 : decode cX7_leave 145 = .ok (.iload_n 1, 1) := by decide +kernel
theorem dX7_leave_146 : decode cX7_leave 146 = .ok (.imul, 1) := by decide +kernel
theorem dX7_leave_147 : decode cX7_leave 147 = .ok (.iload_n 3, 1) := by decide +kernel
theorem dX7_leave_148 : decode cX7_leave 148 = .ok (.iadd, 1) := by decide +kernel
theorem dX7_leave_149 : decode cX7_leave 149 = .ok (.iconst 0, 1) := by decide +kernel
theorem dX7_leave_150 : decode cX7_leave 150 = .ok (.bastore, 1) := by decide +kernel
theorem dX7_leave_151 : decode cX7_leave 151 = .ok (.iinc 3 1, 3) := by decide +kernel
theorem dX7_leave_154 : decode cX7_leave 154 = .ok (.goto (-21), 3) := by decide +kernel
theorem dX7_leave_157 : decode cX7_leave 157 = .ok (.iconst 0, 1) := by decide +kernel
theorem dX7_leave_158 : decode cX7_leave 158 = .ok (.istore_n 3, 1) := by decide +kernel
theorem dX7_leave_159 : decode cX7_leave 159 = .ok (.iload_n 3, 1) := by decide +kernel
theorem dX7_leave_160 : decode cX7_leave 160 = .ok (.aload_n 0, 1) := by decide +kernel
theorem dX7_leave_161 : decode cX7_leave 161 = .ok (.getfield 76, 3) := by decide +kernel
theorem dX7_leave_164 : decode cX7_leave 164 = .ok (.if_icmp .ge 35, 3) := by decide +kernel
theorem dX7_leave_167 : decode cX7_leave 167 = .ok (.aload_n 0, 1) := by decide +kernel
theorem dX7_leave_168 : decode cX7_leave 168 = .ok (.getfield 41, 3) := by decide +kernel
theorem dX7_leave_171 : decode cX7_leave 171 = .ok (.iload_n 3, 1) := by decide +kernel
theorem dX7_leave_172 : decode cX7_leave 172 = .ok (.iaload, 1) := by decide +kernel
theorem dX7_leave_173 : decode cX7_leave 173 = .ok (.ifCond .ne 20, 3) := by decide +kernel
theorem dX7_leave_176 : decode cX7_leave 176 = .ok (.aload_n 0, 1) := by decide +kernel
theorem dX7_leave_177 : decode cX7_leave 177 = .ok (.getfield 53, 3) := by decide +kernel
theorem dX7_leave_180 : decode cX7_leave 180 = .ok (.bipush 10, 2) := by decide +kernel
theorem dX7_leave_182 : decode cX7_leave 182 = .ok (.iload_n 3, 1) := by decide +kernel
theorem dX7_leave_183 : decode cX7_leave 183 = .ok (.imul, 1) := by decide +kernel
theorem dX7_leave_184 : decode cX7_leave 184 = .ok (.iload_n 1, 1) := by decide +kernel
theorem dX7_leave_185 : decode cX7_leave 185 = .ok (.iadd, 1) := by decide +kernel
theorem dX7_leave_186 : decode cX7_leave 186 = .ok (.iconst 0, 1) := by decide +kernel
theorem dX7_leave_187 : decode cX7_leave 187 = .ok (.iastore, 1) := by decide +kernel
theorem dX7_leave_188 : decode cX7_leave 188 = .ok (.aload_n 0, 1) := by decide +kernel
theorem dX7_leave_189 : decode cX7_leave 189 = .ok (.iload_n 3, 1) := by decide +kernel
theorem dX7_leave_190 : decode cX7_leave 190 = .ok (.invokevirtual 101, 3) := by decide +kernel
theorem dX7_leave_193 : decode cX7_leave 193 = .ok (.iinc 3 1, 3) := by decide +kernel
theorem dX7_leave_196 : decode cX7_leave 196 = .ok (.goto (-37), 3) := by decide +kernel
theorem dX7_leave_199 : decode cX7_leave 199 = .ok (.aload_n 0, 1) := by decide +kernel
theorem dX7_leave_200 : decode cX7_leave 200 = .ok (.getfield 23, 3) := by decide +kernel
theorem dX7_leave_203 : decode cX7_leave 203 = .ok (.iload_n 1, 1) := by decide +kernel
theorem dX7_leave_204 : decode cX7_leave 204 = .ok (.iaload, 1) := by decide +kernel
theorem dX7_leave_205 : decode cX7_leave 205 = .ok (.ireturn, 1) := by decide +kernel
theorem dX7_film_0 : decode cX7_film 0 = .ok (.aload_n 0, 1) := by decide +kernel
theorem dX7_film_1 : decode cX7_film 1 = .ok (.iload_n 1, 1) := by decide +kernel
theorem dX7_film_2 : decode cX7_film 2 = .ok (.iconst 1, 1) := by decide +kernel
theorem dX7_film_3 : decode cX7_film 3 = .ok (.bipush 20, 2) := by decide +kernel
theorem dX7_film_5 : decode cX7_film 5 = .ok (.invokestatic 69, 3) := by decide +kernel
theorem dX7_film_8 : decode cX7_film 8 = .ok (.ifCond .ne 7, 3) := by decide +kernel
theorem dX7_film_11 : decode cX7_film 11 = .ok (.iconst 1, 1) := by decide +kernel
theorem dX7_film_12 : decode cX7_film 12 = .ok (.goto 17, 3) := by decide +kernel
theorem dX7_film_15 : decode cX7_film 15 = .ok (.aload_n 0, 1) := by decide +kernel
theorem dX7_film_16 : decode cX7_film 16 = .ok (.getfield 73, 3) := by decide +kernel
theorem dX7_film_19 : decode cX7_film 19 = .ok (.bipush 20, 2) := by decide +kernel
theorem dX7_film_21 : decode cX7_film 21 = .ok (.if_icmp .ne 7, 3) := by decide +kernel
theorem dX7_film_24 : decode cX7_film 24 = .ok (.iconst 2, 1) := by decide +kernel
theorem dX7_film_25 : decode cX7_film 25 = .ok (.goto 4, 3) := by decide +kernel
theorem dX7_film_28 : decode cX7_film 28 = .ok (.iconst 0, 1) := by decide +kernel
theorem dX7_film_29 : decode cX7_film 29 = .ok (.invokevirtual 94, 3) := by decide +kernel
theorem dX7_film_32 : decode cX7_film 32 = .ok (.ifCond .eq 5, 3) := by decide +kernel
theorem dX7_film_35 : decode cX7_film 35 = .ok (.iconst 0, 1) := by decide +kernel
theorem dX7_film_36 : decode cX7_film 36 = .ok (.ireturn, 1) := by decide +kernel
theorem dX7_film_37 : decode cX7_film 37 = .ok (.aload_n 0, 1) := by decide +kernel
theorem dX7_film_38 : decode cX7_film 38 = .ok (.getfield 32, 3) := by decide +kernel
theorem dX7_film_41 : decode cX7_film 41 = .ok (.aload_n 0, 1) := by decide +kernel
theorem dX7_film_42 : decode cX7_film 42 = .ok (.getfield 73, 3) := by decide +kernel
theorem dX7_film_45 : decode cX7_film 45 = .ok (.iload_n 1, 1) := by decide +kernel
theorem dX7_film_46 : decode cX7_film 46 = .ok (.iastore, 1) := by decide +kernel
theorem dX7_film_47 : decode cX7_film 47 = .ok (.aload_n 0, 1) := by decide +kernel
theorem dX7_film_48 : decode cX7_film 48 = .ok (.dup, 1) := by decide +kernel
theorem dX7_film_49 : decode cX7_film 49 = .ok (.getfield 73, 3) := by decide +kernel
theorem dX7_film_52 : decode cX7_film 52 = .ok (.iconst 1, 1) := by decide +kernel
theorem dX7_film_53 : decode cX7_film 53 = .ok (.iadd, 1) := by decide +kernel
theorem dX7_film_54 : decode cX7_film 54 = .ok (.putfield 73, 3) := by decide +kernel
theorem dX7_film_57 : decode cX7_film 57 = .ok (.aload_n 0, 1) := by decide +kernel
theorem dX7_film_58 : decode cX7_film 58 = .ok (.getfield 73, 3) := by decide +kernel
theorem dX7_film_61 : decode cX7_film 61 = .ok (.iconst 1, 1) := by decide +kernel
theorem dX7_film_62 : decode cX7_film 62 = .ok (.isub, 1) := by decide +kernel
theorem dX7_film_63 : decode cX7_film 63 = .ok (.ireturn, 1) := by decide +kernel
theorem dX7_used_0 : decode cX7_used 0 = .ok (.iconst 0, 1) := by decide +kernel
theorem dX7_used_1 : decode cX7_used 1 = .ok (.istore_n 2, 1) := by decide +kernel
theorem dX7_used_2 : decode cX7_used 2 = .ok (.iconst 0, 1) := by decide +kernel
theorem dX7_used_3 : decode cX7_used 3 = .ok (.istore_n 3, 1) := by decide +kernel
theorem dX7_used_4 : decode cX7_used 4 = .ok (.iload_n 3, 1) := by decide +kernel
theorem dX7_used_5 : decode cX7_used 5 = .ok (.aload_n 0, 1) := by decide +kernel
theorem dX7_used_6 : decode cX7_used 6 = .ok (.getfield 73, 3) := by decide +kernel
theorem dX7_used_9 : decode cX7_used 9 = .ok (.if_icmp .ge 36, 3) := by decide +kernel
theorem dX7_used_12 : decode cX7_used 12 = .ok (.iload_n 2, 1) := by decide +kernel
theorem dX7_used_13 : decode cX7_used 13 = .ok (.aload_n 0, 1) := by decide +kernel
theorem dX7_used_14 : decode cX7_used 14 = .ok (.getfield 38, 3) := by decide +kernel
theorem dX7_used_17 : decode cX7_used 17 = .ok (.bipush 20, 2) := by decide +kernel
theorem dX7_used_19 : decode cX7_used 19 = .ok (.iload_n 1, 1) := by decide +kernel
theorem dX7_used_20 : decode cX7_used 20 = .ok (.imul, 1) := by decide +kernel
theorem dX7_used_21 : decode cX7_used 21 = .ok (.iload_n 3, 1) := by decide +kernel
theorem dX7_used_22 : decode cX7_used 22 = .ok (.iadd, 1) := by decide +kernel
theorem dX7_used_23 : decode cX7_used 23 = .ok (.baload, 1) := by decide +kernel
theorem dX7_used_24 : decode cX7_used 24 = .ok (.ifCond .eq 12, 3) := by decide +kernel
theorem dX7_used_27 : decode cX7_used 27 = .ok (.aload_n 0, 1) := by decide +kernel
theorem dX7_used_28 : decode cX7_used 28 = .ok (.getfield 32, 3) := by decide +kernel
theorem dX7_used_31 : decode cX7_used 31 = .ok (.iload_n 3, 1) := by decide +kernel
theorem dX7_used_32 : decode cX7_used 32 = .ok (.iaload, 1) := by decide +kernel
theorem dX7_used_33 : decode cX7_used 33 = .ok (.goto 4, 3) := by decide +kernel
theorem dX7_used_36 : decode cX7_used 36 = .ok (.iconst 0, 1) := by decide +kernel
theorem dX7_used_37 : decode cX7_used 37 = .ok (.iadd, 1) := by decide +kernel
theorem dX7_used_38 : decode cX7_used 38 = .ok (.istore_n 2, 1) := by decide +kernel
theorem dX7_used_39 : decode cX7_used 39 = .ok (.iinc 3 1, 3) := by decide +kernel
theorem dX7_used_42 : decode cX7_used 42 = .ok (.goto (-38), 3) := by decide +kernel
theorem dX7_used_45 : decode cX7_used 45 = .ok (.iload_n 2, 1) := by decide +kernel
theorem dX7_used_46 : decode cX7_used 46 = .ok (.ireturn, 1) := by decide +kernel
theorem dX7_most_0 : decode cX7_most 0 = .ok (.iconst (-1), 1) := by decide +kernel
theorem dX7_most_1 : decode cX7_most 1 = .ok (.istore_n 3, 1) := by decide +kernel
theorem dX7_most_2 : decode cX7_most 2 = .ok (.iconst 0, 1) := by decide +kernel
theorem dX7_most_3 : decode cX7_most 3 = .ok (.istore 4, 2) := by decide +kernel
theorem dX7_most_5 : decode cX7_most 5 = .ok (.iload 4, 2) := by decide +kernel
theorem dX7_most_7 : decode cX7_most 7 = .ok (.aload_n 0, 1) := by decide +kernel
theorem dX7_most_8 : decode cX7_most 8 = .ok (.getfield 66, 3) := by decide +kernel
theorem dX7_most_11 : decode cX7_most 11 = .ok (.if_icmp .ge 85, 3) := by decide +kernel
theorem dX7_most_14 : decode cX7_most 14 = .ok (.iload 4, 2) := by decide +kernel
theorem dX7_most_16 : decode cX7_most 16 = .ok (.iload_n 1, 1) := by decide +kernel
theorem dX7_most_17 : decode cX7_most 17 = .ok (.if_icmp .eq 37, 3) := by decide +kernel
theorem dX7_most_20 : decode cX7_most 20 = .ok (.aload_n 0, 1) := by decide +kernel
theorem dX7_most_21 : decode cX7_most 21 = .ok (.getfield 7, 3) := by decide +kernel
theorem dX7_most_24 : decode cX7_most 24 = .ok (.iload 4, 2) := by decide +kernel
theorem dX7_most_26 : decode cX7_most 26 = .ok (.baload, 1) := by decide +kernel
theorem dX7_most_27 : decode cX7_most 27 = .ok (.ifCond .eq 27, 3) := by decide +kernel
theorem dX7_most_30 : decode cX7_most 30 = .ok (.iload_n 2, 1) := by decide +kernel
theorem dX7_most_31 : decode cX7_most 31 = .ok (.iconst (-1), 1) := by decide +kernel
theorem dX7_most_32 : decode cX7_most 32 = .ok (.if_icmp .eq 18, 3) := by decide +kernel
theorem dX7_most_35 : decode cX7_most 35 = .ok (.aload_n 0, 1) := by decide +kernel
theorem dX7_most_36 : decode cX7_most 36 = .ok (.getfield 38, 3) := by decide +kernel
theorem dX7_most_39 : decode cX7_most 39 = .ok (.bipush 20, 2) := by decide +kernel
theorem dX7_most_41 : decode cX7_most 41 = .ok (.iload 4, 2) := by decide +kernel
theorem dX7_most_43 : decode cX7_most 43 = .ok (.imul, 1) := by decide +kernel
theorem dX7_most_44 : decode cX7_most 44 = .ok (.iload_n 2, 1) := by decide +kernel
theorem dX7_most_45 : decode cX7_most 45 = .ok (.iadd, 1) := by decide +kernel
theorem dX7_most_46 : decode cX7_most 46 = .ok (.baload, 1) := by decide +kernel
theorem dX7_most_47 : decode cX7_most 47 = .ok (.ifCond .eq 7, 3) := by decide +kernel
theorem dX7_most_50 : decode cX7_most 50 = .ok (.iconst 1, 1) := by decide +kernel
theorem dX7_most_51 : decode cX7_most 51 = .ok (.goto 4, 3) := by decide +kernel
theorem dX7_most_54 : decode cX7_most 54 = .ok (.iconst 0, 1) := by decide +kernel
theorem dX7_most_55 : decode cX7_most 55 = .ok (.istore 5, 2) := by decide +kernel
theorem dX7_most_57 : decode cX7_most 57 = .ok (.iload 5, 2) := by decide +kernel
theorem dX7_most_59 : decode cX7_most 59 = .ok (.ifCond .eq 29, 3) := by decide +kernel
theorem dX7_most_62 : decode cX7_most 62 = .ok (.iload_n 3, 1) := by decide +kernel
theorem dX7_most_63 : decode cX7_most 63 = .ok (.iconst (-1), 1) := by decide +kernel
theorem dX7_most_64 : decode cX7_most 64 = .ok (.if_icmp .eq 19, 3) := by decide +kernel
theorem dX7_most_67 : decode cX7_most 67 = .ok (.aload_n 0, 1) := by decide +kernel
theorem dX7_most_68 : decode cX7_most 68 = .ok (.getfield 17, 3) := by decide +kernel
theorem dX7_most_71 : decode cX7_most 71 = .ok (.iload 4, 2) := by decide +kernel
theorem dX7_most_73 : decode cX7_most 73 = .ok (.iaload, 1) := by decide +kernel
theorem dX7_most_74 : decode cX7_most 74 = .ok (.aload_n 0, 1) := by decide +kernel
theorem dX7_most_75 : decode cX7_most 75 = .ok (.getfield 17, 3) := by decide +kernel
theorem dX7_most_78 : decode cX7_most 78 = .ok (.iload_n 3, 1) := by decide +kernel
theorem dX7_most_79 : decode cX7_most 79 = .ok (.iaload, 1) := by decide +kernel
theorem dX7_most_80 : decode cX7_most 80 = .ok (.if_icmp .le 8, 3) := by decide +kernel
theorem dX7_most_83 : decode cX7_most 83 = .ok (.iload 4, 2) := by decide +kernel
theorem dX7_most_85 : decode cX7_most 85 = .ok (.goto 4, 3) := by decide +kernel
theorem dX7_most_88 : decode cX7_most 88 = .ok (.iload_n 3, 1) := by decide +kernel
theorem dX7_most_89 : decode cX7_most 89 = .ok (.istore_n 3, 1) := by decide +kernel
theorem dX7_most_90 : decode cX7_most 90 = .ok (.iinc 4 1, 3) := by decide +kernel
theorem dX7_most_93 : decode cX7_most 93 = .ok (.goto (-88), 3) := by decide +kernel
theorem dX7_most_96 : decode cX7_most 96 = .ok (.iload_n 3, 1) := by decide +kernel
theorem dX7_most_97 : decode cX7_most 97 = .ok (.ireturn, 1) := by decide +kernel
theorem dX7_all_0 : decode cX7_all 0 = .ok (.iconst 0, 1) := by decide +kernel
theorem dX7_all_1 : decode cX7_all 1 = .ok (.istore_n 1, 1) := by decide +kernel
theorem dX7_all_2 : decode cX7_all 2 = .ok (.iconst 0, 1) := by decide +kernel
theorem dX7_all_3 : decode cX7_all 3 = .ok (.istore_n 2, 1) := by decide +kernel
theorem dX7_all_4 : decode cX7_all 4 = .ok (.iload_n 2, 1) := by decide +kernel
theorem dX7_all_5 : decode cX7_all 5 = .ok (.aload_n 0, 1) := by decide +kernel
theorem dX7_all_6 : decode cX7_all 6 = .ok (.getfield 66, 3) := by decide +kernel
theorem dX7_all_9 : decode cX7_all 9 = .ok (.if_icmp .ge 31, 3) := by decide +kernel
theorem dX7_all_12 : decode cX7_all 12 = .ok (.iload_n 1, 1) := by decide +kernel
theorem dX7_all_13 : decode cX7_all 13 = .ok (.aload_n 0, 1) := by decide +kernel
theorem dX7_all_14 : decode cX7_all 14 = .ok (.getfield 7, 3) := by decide +kernel
theorem dX7_all_17 : decode cX7_all 17 = .ok (.iload_n 2, 1) := by decide +kernel
theorem dX7_all_18 : decode cX7_all 18 = .ok (.baload, 1) := by decide +kernel
theorem dX7_all_19 : decode cX7_all 19 = .ok (.ifCond .eq 12, 3) := by decide +kernel
theorem dX7_all_22 : decode cX7_all 22 = .ok (.aload_n 0, 1) := by decide +kernel
theorem dX7_all_23 : decode cX7_all 23 = .ok (.getfield 17, 3) := by decide +kernel
theorem dX7_all_26 : decode cX7_all 26 = .ok (.iload_n 2, 1) := by decide +kernel
theorem dX7_all_27 : decode cX7_all 27 = .ok (.iaload, 1) := by decide +kernel
theorem dX7_all_28 : decode cX7_all 28 = .ok (.goto 4, 3) := by decide +kernel
theorem dX7_all_31 : decode cX7_all 31 = .ok (.iconst 0, 1) := by decide +kernel
theorem dX7_all_32 : decode cX7_all 32 = .ok (.iadd, 1) := by decide +kernel
theorem dX7_all_33 : decode cX7_all 33 = .ok (.istore_n 1, 1) := by decide +kernel
theorem dX7_all_34 : decode cX7_all 34 = .ok (.iinc 2 1, 3) := by decide +kernel
theorem dX7_all_37 : decode cX7_all 37 = .ok (.goto (-33), 3) := by decide +kernel
theorem dX7_all_40 : decode cX7_all 40 = .ok (.iload_n 1, 1) := by decide +kernel
theorem dX7_all_41 : decode cX7_all 41 = .ok (.ireturn, 1) := by decide +kernel
theorem dX7_owe_0 : decode cX7_owe 0 = .ok (.aload_n 0, 1) := by decide +kernel
theorem dX7_owe_1 : decode cX7_owe 1 = .ok (.getfield 29, 3) := by decide +kernel
theorem dX7_owe_4 : decode cX7_owe 4 = .ok (.bipush 10, 2) := by decide +kernel
theorem dX7_owe_6 : decode cX7_owe 6 = .ok (.iload_n 2, 1) := by decide +kernel
theorem dX7_owe_7 : decode cX7_owe 7 = .ok (.imul, 1) := by decide +kernel
theorem dX7_owe_8 : decode cX7_owe 8 = .ok (.iload_n 1, 1) := by decide +kernel
theorem dX7_owe_9 : decode cX7_owe 9 = .ok (.iadd, 1) := by decide +kernel
theorem dX7_owe_10 : decode cX7_owe 10 = .ok (.iaload, 1) := by decide +kernel
theorem dX7_owe_11 : decode cX7_owe 11 = .ok (.iload_n 3, 1) := by decide +kernel
theorem dX7_owe_12 : decode cX7_owe 12 = .ok (.if_icmp .ge 17, 3) := by decide +kernel
theorem dX7_owe_15 : decode cX7_owe 15 = .ok (.aload_n 0, 1) := by decide +kernel
theorem dX7_owe_16 : decode cX7_owe 16 = .ok (.getfield 29, 3) := by decide +kernel
theorem dX7_owe_19 : decode cX7_owe 19 = .ok (.bipush 10, 2) := by decide +kernel
theorem dX7_owe_21 : decode cX7_owe 21 = .ok (.iload_n 2, 1) := by decide +kernel
theorem dX7_owe_22 : decode cX7_owe 22 = .ok (.imul, 1) := by decide +kernel
theorem dX7_owe_23 : decode cX7_owe 23 = .ok (.iload_n 1, 1) := by decide +kernel
theorem dX7_owe_24 : decode cX7_owe 24 = .ok (.iadd, 1) := by decide +kernel
theorem dX7_owe_25 : decode cX7_owe 25 = .ok (.iaload, 1) := by decide +kernel
theorem dX7_owe_26 : decode cX7_owe 26 = .ok (.goto 4, 3) := by decide +kernel
theorem dX7_owe_29 : decode cX7_owe 29 = .ok (.iload_n 3, 1) := by decide +kernel
theorem dX7_owe_30 : decode cX7_owe 30 = .ok (.istore 4, 2) := by decide +kernel
theorem dX7_owe_32 : decode cX7_owe 32 = .ok (.aload_n 0, 1) := by decide +kernel
theorem dX7_owe_33 : decode cX7_owe 33 = .ok (.getfield 29, 3) := by decide +kernel
theorem dX7_owe_36 : decode cX7_owe 36 = .ok (.bipush 10, 2) := by decide +kernel
theorem dX7_owe_38 : decode cX7_owe 38 = .ok (.iload_n 2, 1) := by decide +kernel
theorem dX7_owe_39 : decode cX7_owe 39 = .ok (.imul, 1) := by decide +kernel
theorem dX7_owe_40 : decode cX7_owe 40 = .ok (.iload_n 1, 1) := by decide +kernel
theorem dX7_owe_41 : decode cX7_owe 41 = .ok (.iadd, 1) := by decide +kernel
theorem dX7_owe_42 : decode cX7_owe 42 = .ok (.dup2, 1) := by decide +kernel
theorem dX7_owe_43 : decode cX7_owe 43 = .ok (.iaload, 1) := by decide +kernel
theorem dX7_owe_44 : decode cX7_owe 44 = .ok (.iload 4, 2) := by decide +kernel
theorem dX7_owe_46 : decode cX7_owe 46 = .ok (.isub, 1) := by decide +kernel
theorem dX7_owe_47 : decode cX7_owe 47 = .ok (.iastore, 1) := by decide +kernel
theorem dX7_owe_48 : decode cX7_owe 48 = .ok (.aload_n 0, 1) := by decide +kernel
theorem dX7_owe_49 : decode cX7_owe 49 = .ok (.getfield 29, 3) := by decide +kernel
theorem dX7_owe_52 : decode cX7_owe 52 = .ok (.bipush 10, 2) := by decide +kernel
theorem dX7_owe_54 : decode cX7_owe 54 = .ok (.iload_n 1, 1) := by decide +kernel
theorem dX7_owe_55 : decode cX7_owe 55 = .ok (.imul, 1) := by decide +kernel
theorem dX7_owe_56 : decode cX7_owe 56 = .ok (.iload_n 2, 1) := by decide +kernel
theorem dX7_owe_57 : decode cX7_owe 57 = .ok (.iadd, 1) := by decide +kernel
theorem dX7_owe_58 : decode cX7_owe 58 = .ok (.dup2, 1) := by decide +kernel
theorem dX7_owe_59 : decode cX7_owe 59 = .ok (.iaload, 1) := by decide +kernel
theorem dX7_owe_60 : decode cX7_owe 60 = .ok (.iload_n 3, 1) := by decide +kernel
theorem dX7_owe_61 : decode cX7_owe 61 = .ok (.iload 4, 2) := by decide +kernel
theorem dX7_owe_63 : decode cX7_owe 63 = .ok (.isub, 1) := by decide +kernel
theorem dX7_owe_64 : decode cX7_owe 64 = .ok (.iadd, 1) := by decide +kernel
theorem dX7_owe_65 : decode cX7_owe 65 = .ok (.iastore, 1) := by decide +kernel
theorem dX7_owe_66 : decode cX7_owe 66 = .ok (.return_, 1) := by decide +kernel
theorem dX7_bring_0 : decode cX7_bring 0 = .ok (.aload_n 0, 1) := by decide +kernel
theorem dX7_bring_1 : decode cX7_bring 1 = .ok (.getfield 32, 3) := by decide +kernel
theorem dX7_bring_4 : decode cX7_bring 4 = .ok (.iload_n 2, 1) := by decide +kernel
theorem dX7_bring_5 : decode cX7_bring 5 = .ok (.iaload, 1) := by decide +kernel
theorem dX7_bring_6 : decode cX7_bring 6 = .ok (.istore_n 3, 1) := by decide +kernel
theorem dX7_bring_7 : decode cX7_bring 7 = .ok (.aload_n 0, 1) := by decide +kernel
theorem dX7_bring_8 : decode cX7_bring 8 = .ok (.getfield 17, 3) := by decide +kernel
theorem dX7_bring_11 : decode cX7_bring 11 = .ok (.iload_n 1, 1) := by decide +kernel
theorem dX7_bring_12 : decode cX7_bring 12 = .ok (.iaload, 1) := by decide +kernel
theorem dX7_bring_13 : decode cX7_bring 13 = .ok (.iload_n 3, 1) := by decide +kernel
theorem dX7_bring_14 : decode cX7_bring 14 = .ok (.if_icmp .ge 12, 3) := by decide +kernel
theorem dX7_bring_17 : decode cX7_bring 17 = .ok (.aload_n 0, 1) := by decide +kernel
theorem dX7_bring_18 : decode cX7_bring 18 = .ok (.getfield 17, 3) := by decide +kernel
theorem dX7_bring_21 : decode cX7_bring 21 = .ok (.iload_n 1, 1) := by decide +kernel
theorem dX7_bring_22 : decode cX7_bring 22 = .ok (.iaload, 1) := by decide +kernel
theorem dX7_bring_23 : decode cX7_bring 23 = .ok (.goto 4, 3) := by decide +kernel
theorem dX7_bring_26 : decode cX7_bring 26 = .ok (.iload_n 3, 1) := by decide +kernel
theorem dX7_bring_27 : decode cX7_bring 27 = .ok (.istore 4, 2) := by decide +kernel
theorem dX7_bring_29 : decode cX7_bring 29 = .ok (.aload_n 0, 1) := by decide +kernel
theorem dX7_bring_30 : decode cX7_bring 30 = .ok (.getfield 17, 3) := by decide +kernel
theorem dX7_bring_33 : decode cX7_bring 33 = .ok (.iload_n 1, 1) := by decide +kernel
theorem dX7_bring_34 : decode cX7_bring 34 = .ok (.dup2, 1) := by decide +kernel
theorem dX7_bring_35 : decode cX7_bring 35 = .ok (.iaload, 1) := by decide +kernel
theorem dX7_bring_36 : decode cX7_bring 36 = .ok (.iload 4, 2) := by decide +kernel
theorem dX7_bring_38 : decode cX7_bring 38 = .ok (.isub, 1) := by decide +kernel
theorem dX7_bring_39 : decode cX7_bring 39 = .ok (.iastore, 1) := by decide +kernel
theorem dX7_bring_40 : decode cX7_bring 40 = .ok (.iload_n 3, 1) := by decide +kernel
theorem dX7_bring_41 : decode cX7_bring 41 = .ok (.iload 4, 2) := by decide +kernel
theorem dX7_bring_43 : decode cX7_bring 43 = .ok (.isub, 1) := by decide +kernel
theorem dX7_bring_44 : decode cX7_bring 44 = .ok (.istore_n 3, 1) := by decide +kernel
theorem dX7_bring_45 : decode cX7_bring 45 = .ok (.iload_n 3, 1) := by decide +kernel
theorem dX7_bring_46 : decode cX7_bring 46 = .ok (.ifCond .le 64, 3) := by decide +kernel
theorem dX7_bring_49 : decode cX7_bring 49 = .ok (.aload_n 0, 1) := by decide +kernel
theorem dX7_bring_50 : decode cX7_bring 50 = .ok (.iload_n 1, 1) := by decide +kernel
theorem dX7_bring_51 : decode cX7_bring 51 = .ok (.iconst (-1), 1) := by decide +kernel
theorem dX7_bring_52 : decode cX7_bring 52 = .ok (.invokevirtual 105, 3) := by decide +kernel
theorem dX7_bring_55 : decode cX7_bring 55 = .ok (.istore 5, 2) := by decide +kernel
theorem dX7_bring_57 : decode cX7_bring 57 = .ok (.aload_n 0, 1) := by decide +kernel
theorem dX7_bring_58 : decode cX7_bring 58 = .ok (.getfield 17, 3) := by decide +kernel
theorem dX7_bring_61 : decode cX7_bring 61 = .ok (.iload 5, 2) := by decide +kernel
theorem dX7_bring_63 : decode cX7_bring 63 = .ok (.iaload, 1) := by decide +kernel
theorem dX7_bring_64 : decode cX7_bring 64 = .ok (.iload_n 3, 1) := by decide +kernel
theorem dX7_bring_65 : decode cX7_bring 65 = .ok (.if_icmp .ge 13, 3) := by decide +kernel
theorem dX7_bring_68 : decode cX7_bring 68 = .ok (.aload_n 0, 1) := by decide +kernel
theorem dX7_bring_69 : decode cX7_bring 69 = .ok (.getfield 17, 3) := by decide +kernel
theorem dX7_bring_72 : decode cX7_bring 72 = .ok (.iload 5, 2) := by decide +kernel
theorem dX7_bring_74 : decode cX7_bring 74 = .ok (.iaload, 1) := by decide +kernel
theorem dX7_bring_75 : decode cX7_bring 75 = .ok (.goto 4, 3) := by decide +kernel
theorem dX7_bring_78 : decode cX7_bring 78 = .ok (.iload_n 3, 1) := by decide +kernel
theorem dX7_bring_79 : decode cX7_bring 79 = .ok (.istore 4, 2) := by decide +kernel
theorem dX7_bring_81 : decode cX7_bring 81 = .ok (.aload_n 0, 1) := by decide +kernel
theorem dX7_bring_82 : decode cX7_bring 82 = .ok (.getfield 17, 3) := by decide +kernel
theorem dX7_bring_85 : decode cX7_bring 85 = .ok (.iload 5, 2) := by decide +kernel
theorem dX7_bring_87 : decode cX7_bring 87 = .ok (.dup2, 1) := by decide +kernel
theorem dX7_bring_88 : decode cX7_bring 88 = .ok (.iaload, 1) := by decide +kernel
theorem dX7_bring_89 : decode cX7_bring 89 = .ok (.iload 4, 2) := by decide +kernel
theorem dX7_bring_91 : decode cX7_bring 91 = .ok (.isub, 1) := by decide +kernel
theorem dX7_bring_92 : decode cX7_bring 92 = .ok (.iastore, 1) := by decide +kernel
theorem dX7_bring_93 : decode cX7_bring 93 = .ok (.iload_n 3, 1) := by decide +kernel
theorem dX7_bring_94 : decode cX7_bring 94 = .ok (.iload 4, 2) := by decide +kernel
theorem dX7_bring_96 : decode cX7_bring 96 = .ok (.isub, 1) := by decide +kernel
theorem dX7_bring_97 : decode cX7_bring 97 = .ok (.istore_n 3, 1) := by decide +kernel
theorem dX7_bring_98 : decode cX7_bring 98 = .ok (.aload_n 0, 1) := by decide +kernel
theorem dX7_bring_99 : decode cX7_bring 99 = .ok (.iload_n 1, 1) := by decide +kernel
theorem dX7_bring_100 : decode cX7_bring 100 = .ok (.iload 5, 2) := by decide +kernel
theorem dX7_bring_102 : decode cX7_bring 102 = .ok (.iload 4, 2) := by decide +kernel
theorem dX7_bring_104 : decode cX7_bring 104 = .ok (.invokevirtual 108, 3) := by decide +kernel
theorem dX7_bring_107 : decode cX7_bring 107 = .ok (.goto (-62), 3) := by decide +kernel
theorem dX7_bring_110 : decode cX7_bring 110 = .ok (.return_, 1) := by decide +kernel
theorem dX7_least_0 : decode cX7_least 0 = .ok (.iconst (-1), 1) := by decide +kernel
theorem dX7_least_1 : decode cX7_least 1 = .ok (.istore 4, 2) := by decide +kernel
theorem dX7_least_3 : decode cX7_least 3 = .ok (.iconst 0, 1) := by decide +kernel
theorem dX7_least_4 : decode cX7_least 4 = .ok (.istore 5, 2) := by decide +kernel
theorem dX7_least_6 : decode cX7_least 6 = .ok (.iload 5, 2) := by decide +kernel
theorem dX7_least_8 : decode cX7_least 8 = .ok (.aload_n 0, 1) := by decide +kernel
theorem dX7_least_9 : decode cX7_least 9 = .ok (.getfield 73, 3) := by decide +kernel
theorem dX7_least_12 : decode cX7_least 12 = .ok (.if_icmp .ge 88, 3) := by decide +kernel
theorem dX7_least_15 : decode cX7_least 15 = .ok (.aload_n 0, 1) := by decide +kernel
theorem dX7_least_16 : decode cX7_least 16 = .ok (.getfield 38, 3) := by decide +kernel
theorem dX7_least_19 : decode cX7_least 19 = .ok (.bipush 20, 2) := by decide +kernel
theorem dX7_least_21 : decode cX7_least 21 = .ok (.iload_n 1, 1) := by decide +kernel
theorem dX7_least_22 : decode cX7_least 22 = .ok (.imul, 1) := by decide +kernel
theorem dX7_least_23 : decode cX7_least 23 = .ok (.iload 5, 2) := by decide +kernel
theorem dX7_least_25 : decode cX7_least 25 = .ok (.iadd, 1) := by decide +kernel
theorem dX7_least_26 : decode cX7_least 26 = .ok (.baload, 1) := by decide +kernel
theorem dX7_least_27 : decode cX7_least 27 = .ok (.ifCond .eq 27, 3) := by decide +kernel
theorem dX7_least_30 : decode cX7_least 30 = .ok (.iload_n 3, 1) := by decide +kernel
theorem dX7_least_31 : decode cX7_least 31 = .ok (.iload 5, 2) := by decide +kernel
theorem dX7_least_33 : decode cX7_least 33 = .ok (.ishr, 1) := by decide +kernel
theorem dX7_least_34 : decode cX7_least 34 = .ok (.iconst 1, 1) := by decide +kernel
theorem dX7_least_35 : decode cX7_least 35 = .ok (.iand, 1) := by decide +kernel
theorem dX7_least_36 : decode cX7_least 36 = .ok (.ifCond .ne 18, 3) := by decide +kernel
theorem dX7_least_39 : decode cX7_least 39 = .ok (.aload_n 0, 1) := by decide +kernel
theorem dX7_least_40 : decode cX7_least 40 = .ok (.getfield 35, 3) := by decide +kernel
theorem dX7_least_43 : decode cX7_least 43 = .ok (.iload 5, 2) := by decide +kernel
theorem dX7_least_45 : decode cX7_least 45 = .ok (.iaload, 1) := by decide +kernel
theorem dX7_least_46 : decode cX7_least 46 = .ok (.iload_n 2, 1) := by decide +kernel
theorem dX7_least_47 : decode cX7_least 47 = .ok (.if_icmp .ge 7, 3) := by decide +kernel
theorem dX7_least_50 : decode cX7_least 50 = .ok (.iconst 1, 1) := by decide +kernel
theorem dX7_least_51 : decode cX7_least 51 = .ok (.goto 4, 3) := by decide +kernel
theorem dX7_least_54 : decode cX7_least 54 = .ok (.iconst 0, 1) := by decide +kernel
theorem dX7_least_55 : decode cX7_least 55 = .ok (.istore 6, 2) := by decide +kernel
theorem dX7_least_57 : decode cX7_least 57 = .ok (.iload 6, 2) := by decide +kernel
theorem dX7_least_59 : decode cX7_least 59 = .ok (.ifCond .eq 31, 3) := by decide +kernel
theorem dX7_least_62 : decode cX7_least 62 = .ok (.iload 4, 2) := by decide +kernel
theorem dX7_least_64 : decode cX7_least 64 = .ok (.iconst (-1), 1) := by decide +kernel
theorem dX7_least_65 : decode cX7_least 65 = .ok (.if_icmp .eq 20, 3) := by decide +kernel
theorem dX7_least_68 : decode cX7_least 68 = .ok (.aload_n 0, 1) := by decide +kernel
theorem dX7_least_69 : decode cX7_least 69 = .ok (.getfield 35, 3) := by decide +kernel
theorem dX7_least_72 : decode cX7_least 72 = .ok (.iload 5, 2) := by decide +kernel
theorem dX7_least_74 : decode cX7_least 74 = .ok (.iaload, 1) := by decide +kernel
theorem dX7_least_75 : decode cX7_least 75 = .ok (.aload_n 0, 1) := by decide +kernel
theorem dX7_least_76 : decode cX7_least 76 = .ok (.getfield 35, 3) := by decide +kernel
theorem dX7_least_79 : decode cX7_least 79 = .ok (.iload 4, 2) := by decide +kernel
theorem dX7_least_81 : decode cX7_least 81 = .ok (.iaload, 1) := by decide +kernel
theorem dX7_least_82 : decode cX7_least 82 = .ok (.if_icmp .ge 8, 3) := by decide +kernel
theorem dX7_least_85 : decode cX7_least 85 = .ok (.iload 5, 2) := by decide +kernel
theorem dX7_least_87 : decode cX7_least 87 = .ok (.goto 5, 3) := by decide +kernel
theorem dX7_least_90 : decode cX7_least 90 = .ok (.iload 4, 2) := by decide +kernel
theorem dX7_least_92 : decode cX7_least 92 = .ok (.istore 4, 2) := by decide +kernel
theorem dX7_least_94 : decode cX7_least 94 = .ok (.iinc 5 1, 3) := by decide +kernel
theorem dX7_least_97 : decode cX7_least 97 = .ok (.goto (-91), 3) := by decide +kernel
theorem dX7_least_100 : decode cX7_least 100 = .ok (.iload 4, 2) := by decide +kernel
theorem dX7_least_102 : decode cX7_least 102 = .ok (.ireturn, 1) := by decide +kernel
theorem dX7_put_0 : decode cX7_put 0 = .ok (.aload_n 0, 1) := by decide +kernel
theorem dX7_put_1 : decode cX7_put 1 = .ok (.getfield 20, 3) := by decide +kernel
theorem dX7_put_4 : decode cX7_put 4 = .ok (.iload_n 1, 1) := by decide +kernel
theorem dX7_put_5 : decode cX7_put 5 = .ok (.iaload, 1) := by decide +kernel
theorem dX7_put_6 : decode cX7_put 6 = .ok (.aload_n 0, 1) := by decide +kernel
theorem dX7_put_7 : decode cX7_put 7 = .ok (.iload_n 1, 1) := by decide +kernel
theorem dX7_put_8 : decode cX7_put 8 = .ok (.invokevirtual 112, 3) := by decide +kernel
theorem dX7_put_11 : decode cX7_put 11 = .ok (.isub, 1) := by decide +kernel
theorem dX7_put_12 : decode cX7_put 12 = .ok (.istore_n 3, 1) := by decide +kernel
theorem dX7_put_13 : decode cX7_put 13 = .ok (.iconst 0, 1) := by decide +kernel
theorem dX7_put_14 : decode cX7_put 14 = .ok (.istore 4, 2) := by decide +kernel
theorem dX7_put_16 : decode cX7_put 16 = .ok (.aload_n 0, 1) := by decide +kernel
theorem dX7_put_17 : decode cX7_put 17 = .ok (.iload_n 1, 1) := by decide +kernel
theorem dX7_put_18 : decode cX7_put 18 = .ok (.aload_n 0, 1) := by decide +kernel
theorem dX7_put_19 : decode cX7_put 19 = .ok (.getfield 35, 3) := by decide +kernel
theorem dX7_put_22 : decode cX7_put 22 = .ok (.iload_n 2, 1) := by decide +kernel
theorem dX7_put_23 : decode cX7_put 23 = .ok (.iaload, 1) := by decide +kernel
theorem dX7_put_24 : decode cX7_put 24 = .ok (.iload 4, 2) := by decide +kernel
theorem dX7_put_26 : decode cX7_put 26 = .ok (.invokevirtual 115, 3) := by decide +kernel
theorem dX7_put_29 : decode cX7_put 29 = .ok (.istore 5, 2) := by decide +kernel
theorem dX7_put_31 : decode cX7_put 31 = .ok (.iload_n 3, 1) := by decide +kernel
theorem dX7_put_32 : decode cX7_put 32 = .ok (.aload_n 0, 1) := by decide +kernel
theorem dX7_put_33 : decode cX7_put 33 = .ok (.getfield 32, 3) := by decide +kernel
theorem dX7_put_36 : decode cX7_put 36 = .ok (.iload_n 2, 1) := by decide +kernel
theorem dX7_put_37 : decode cX7_put 37 = .ok (.iaload, 1) := by decide +kernel
theorem dX7_put_38 : decode cX7_put 38 = .ok (.if_icmp .ge 46, 3) := by decide +kernel
theorem dX7_put_41 : decode cX7_put 41 = .ok (.iload 5, 2) := by decide +kernel
theorem dX7_put_43 : decode cX7_put 43 = .ok (.iconst (-1), 1) := by decide +kernel
theorem dX7_put_44 : decode cX7_put 44 = .ok (.if_icmp .eq 40, 3) := by decide +kernel
theorem dX7_put_47 : decode cX7_put 47 = .ok (.iload 4, 2) := by decide +kernel
theorem dX7_put_49 : decode cX7_put 49 = .ok (.iconst 1, 1) := by decide +kernel
theorem dX7_put_50 : decode cX7_put 50 = .ok (.iload 5, 2) := by decide +kernel
theorem dX7_put_52 : decode cX7_put 52 = .ok (.ishl, 1) := by decide +kernel
theorem dX7_put_53 : decode cX7_put 53 = .ok (.ior, 1) := by decide +kernel
theorem dX7_put_54 : decode cX7_put 54 = .ok (.istore 4, 2) := by decide +kernel
theorem dX7_put_56 : decode cX7_put 56 = .ok (.iload_n 3, 1) := by decide +kernel
theorem dX7_put_57 : decode cX7_put 57 = .ok (.aload_n 0, 1) := by decide +kernel
theorem dX7_put_58 : decode cX7_put 58 = .ok (.getfield 32, 3) := by decide +kernel
theorem dX7_put_61 : decode cX7_put 61 = .ok (.iload 5, 2) := by decide +kernel
theorem dX7_put_63 : decode cX7_put 63 = .ok (.iaload, 1) := by decide +kernel
theorem dX7_put_64 : decode cX7_put 64 = .ok (.iadd, 1) := by decide +kernel
theorem dX7_put_65 : decode cX7_put 65 = .ok (.istore_n 3, 1) := by decide +kernel
theorem dX7_put_66 : decode cX7_put 66 = .ok (.aload_n 0, 1) := by decide +kernel
theorem dX7_put_67 : decode cX7_put 67 = .ok (.iload_n 1, 1) := by decide +kernel
theorem dX7_put_68 : decode cX7_put 68 = .ok (.aload_n 0, 1) := by decide +kernel
theorem dX7_put_69 : decode cX7_put 69 = .ok (.getfield 35, 3) := by decide +kernel
theorem dX7_put_72 : decode cX7_put 72 = .ok (.iload_n 2, 1) := by decide +kernel
theorem dX7_put_73 : decode cX7_put 73 = .ok (.iaload, 1) := by decide +kernel
theorem dX7_put_74 : decode cX7_put 74 = .ok (.iload 4, 2) := by decide +kernel
theorem dX7_put_76 : decode cX7_put 76 = .ok (.invokevirtual 115, 3) := by decide +kernel
theorem dX7_put_79 : decode cX7_put 79 = .ok (.istore 5, 2) := by decide +kernel
theorem dX7_put_81 : decode cX7_put 81 = .ok (.goto (-50), 3) := by decide +kernel
theorem dX7_put_84 : decode cX7_put 84 = .ok (.iload_n 3, 1) := by decide +kernel
theorem dX7_put_85 : decode cX7_put 85 = .ok (.aload_n 0, 1) := by decide +kernel
theorem dX7_put_86 : decode cX7_put 86 = .ok (.getfield 32, 3) := by decide +kernel
theorem dX7_put_89 : decode cX7_put 89 = .ok (.iload_n 2, 1) := by decide +kernel
theorem dX7_put_90 : decode cX7_put 90 = .ok (.iaload, 1) := by decide +kernel
theorem dX7_put_91 : decode cX7_put 91 = .ok (.if_icmp .lt 75, 3) := by decide +kernel
theorem dX7_put_94 : decode cX7_put 94 = .ok (.iconst 0, 1) := by decide +kernel
theorem dX7_put_95 : decode cX7_put 95 = .ok (.istore 6, 2) := by decide +kernel
theorem dX7_put_97 : decode cX7_put 97 = .ok (.iload 6, 2) := by decide +kernel
theorem dX7_put_99 : decode cX7_put 99 = .ok (.aload_n 0, 1) := by decide +kernel
theorem dX7_put_100 : decode cX7_put 100 = .ok (.getfield 73, 3) := by decide +kernel
theorem dX7_put_103 : decode cX7_put 103 = .ok (.if_icmp .ge 51, 3) := by decide +kernel
theorem dX7_put_106 : decode cX7_put 106 = .ok (.aload_n 0, 1) := by decide +kernel
theorem dX7_put_107 : decode cX7_put 107 = .ok (.getfield 38, 3) := by decide +kernel
theorem dX7_put_110 : decode cX7_put 110 = .ok (.bipush 20, 2) := by decide +kernel
theorem dX7_put_112 : decode cX7_put 112 = .ok (.iload_n 1, 1) := by decide +kernel
theorem dX7_put_113 : decode cX7_put 113 = .ok (.imul, 1) := by decide +kernel
theorem dX7_put_114 : decode cX7_put 114 = .ok (.iload 6, 2) := by decide +kernel
theorem dX7_put_116 : decode cX7_put 116 = .ok (.iadd, 1) := by decide +kernel
theorem dX7_put_117 : decode cX7_put 117 = .ok (.aload_n 0, 1) := by decide +kernel
theorem dX7_put_118 : decode cX7_put 118 = .ok (.getfield 38, 3) := by decide +kernel
theorem dX7_put_121 : decode cX7_put 121 = .ok (.bipush 20, 2) := by decide +kernel
theorem dX7_put_123 : decode cX7_put 123 = .ok (.iload_n 1, 1) := by decide +kernel
theorem dX7_put_124 : decode cX7_put 124 = .ok (.imul, 1) := by decide +kernel
theorem dX7_put_125 : decode cX7_put 125 = .ok (.iload 6, 2) := by decide +kernel
theorem dX7_put_127 : decode cX7_put 127 = .ok (.iadd, 1) := by decide +kernel
theorem dX7_put_128 : decode cX7_put 128 = .ok (.baload, 1) := by decide +kernel
theorem dX7_put_129 : decode cX7_put 129 = .ok (.ifCond .eq 17, 3) := by decide +kernel
theorem dX7_put_132 : decode cX7_put 132 = .ok (.iload 4, 2) := by decide +kernel
theorem dX7_put_134 : decode cX7_put 134 = .ok (.iload 6, 2) := by decide +kernel
theorem dX7_put_136 : decode cX7_put 136 = .ok (.ishr, 1) := by decide +kernel
theorem dX7_put_137 : decode cX7_put 137 = .ok (.iconst 1, 1) := by decide +kernel
theorem dX7_put_138 : decode cX7_put 138 = .ok (.iand, 1) := by decide +kernel
theorem dX7_put_139 : decode cX7_put 139 = .ok (.ifCond .ne 7, 3) := by decide +kernel
theorem dX7_put_142 : decode cX7_put 142 = .ok (.iconst 1, 1) := by decide +kernel
theorem dX7_put_143 : decode cX7_put 143 = .ok (.goto 4, 3) := by decide +kernel
theorem dX7_put_146 : decode cX7_put 146 = .ok (.iconst 0, 1) := by decide +kernel
theorem dX7_put_147 : decode cX7_put 147 = .ok (.bastore, 1) := by decide +kernel
theorem dX7_put_148 : decode cX7_put 148 = .ok (.iinc 6 1, 3) := by decide +kernel
theorem dX7_put_151 : decode cX7_put 151 = .ok (.goto (-54), 3) := by decide +kernel
theorem dX7_put_154 : decode cX7_put 154 = .ok (.aload_n 0, 1) := by decide +kernel
theorem dX7_put_155 : decode cX7_put 155 = .ok (.getfield 38, 3) := by decide +kernel
theorem dX7_put_158 : decode cX7_put 158 = .ok (.bipush 20, 2) := by decide +kernel
theorem dX7_put_160 : decode cX7_put 160 = .ok (.iload_n 1, 1) := by decide +kernel
theorem dX7_put_161 : decode cX7_put 161 = .ok (.imul, 1) := by decide +kernel
theorem dX7_put_162 : decode cX7_put 162 = .ok (.iload_n 2, 1) := by decide +kernel
theorem dX7_put_163 : decode cX7_put 163 = .ok (.iadd, 1) := by decide +kernel
theorem dX7_put_164 : decode cX7_put 164 = .ok (.iconst 1, 1) := by decide +kernel
theorem dX7_put_165 : decode cX7_put 165 = .ok (.bastore, 1) := by decide +kernel
theorem dX7_put_166 : decode cX7_put 166 = .ok (.return_, 1) := by decide +kernel
theorem dX7_fetch_0 : decode cX7_fetch 0 = .ok (.aload_n 0, 1) := by decide +kernel
theorem dX7_fetch_1 : decode cX7_fetch 1 = .ok (.iload_n 1, 1) := by decide +kernel
theorem dX7_fetch_2 : decode cX7_fetch 2 = .ok (.invokevirtual 98, 3) := by decide +kernel
theorem dX7_fetch_5 : decode cX7_fetch 5 = .ok (.ifCond .eq 15, 3) := by decide +kernel
theorem dX7_fetch_8 : decode cX7_fetch 8 = .ok (.aload_n 0, 1) := by decide +kernel
theorem dX7_fetch_9 : decode cX7_fetch 9 = .ok (.iload_n 2, 1) := by decide +kernel
theorem dX7_fetch_10 : decode cX7_fetch 10 = .ok (.invokevirtual 119, 3) := by decide +kernel
theorem dX7_fetch_13 : decode cX7_fetch 13 = .ok (.ifCond .eq 7, 3) := by decide +kernel
theorem dX7_fetch_16 : decode cX7_fetch 16 = .ok (.iconst 1, 1) := by decide +kernel
theorem dX7_fetch_17 : decode cX7_fetch 17 = .ok (.goto 4, 3) := by decide +kernel
theorem dX7_fetch_20 : decode cX7_fetch 20 = .ok (.iconst 0, 1) := by decide +kernel
theorem dX7_fetch_21 : decode cX7_fetch 21 = .ok (.istore_n 3, 1) := by decide +kernel
theorem dX7_fetch_22 : decode cX7_fetch 22 = .ok (.iload_n 3, 1) := by decide +kernel
theorem dX7_fetch_23 : decode cX7_fetch 23 = .ok (.ifCond .eq 26, 3) := by decide +kernel
theorem dX7_fetch_26 : decode cX7_fetch 26 = .ok (.aload_n 0, 1) := by decide +kernel
theorem dX7_fetch_27 : decode cX7_fetch 27 = .ok (.getfield 7, 3) := by decide +kernel
theorem dX7_fetch_30 : decode cX7_fetch 30 = .ok (.iload_n 1, 1) := by decide +kernel
theorem dX7_fetch_31 : decode cX7_fetch 31 = .ok (.baload, 1) := by decide +kernel
theorem dX7_fetch_32 : decode cX7_fetch 32 = .ok (.ifCond .eq 17, 3) := by decide +kernel
theorem dX7_fetch_35 : decode cX7_fetch 35 = .ok (.aload_n 0, 1) := by decide +kernel
theorem dX7_fetch_36 : decode cX7_fetch 36 = .ok (.getfield 122, 3) := by decide +kernel
theorem dX7_fetch_39 : decode cX7_fetch 39 = .ok (.sipush 300, 3) := by decide +kernel
theorem dX7_fetch_42 : decode cX7_fetch 42 = .ok (.if_icmp .ge 7, 3) := by decide +kernel
theorem dX7_fetch_45 : decode cX7_fetch 45 = .ok (.iconst 1, 1) := by decide +kernel
theorem dX7_fetch_46 : decode cX7_fetch 46 = .ok (.goto 4, 3) := by decide +kernel
theorem dX7_fetch_49 : decode cX7_fetch 49 = .ok (.iconst 0, 1) := by decide +kernel
theorem dX7_fetch_50 : decode cX7_fetch 50 = .ok (.istore 4, 2) := by decide +kernel
theorem dX7_fetch_52 : decode cX7_fetch 52 = .ok (.iload 4, 2) := by decide +kernel
theorem dX7_fetch_54 : decode cX7_fetch 54 = .ok (.ifCond .eq 21, 3) := by decide +kernel
theorem dX7_fetch_57 : decode cX7_fetch 57 = .ok (.aload_n 0, 1) := by decide +kernel
theorem dX7_fetch_58 : decode cX7_fetch 58 = .ok (.getfield 38, 3) := by decide +kernel
theorem dX7_fetch_61 : decode cX7_fetch 61 = .ok (.bipush 20, 2) := by decide +kernel
theorem dX7_fetch_63 : decode cX7_fetch 63 = .ok (.iload_n 1, 1) := by decide +kernel
theorem dX7_fetch_64 : decode cX7_fetch 64 = .ok (.imul, 1) := by decide +kernel
theorem dX7_fetch_65 : decode cX7_fetch 65 = .ok (.iload_n 2, 1) := by decide +kernel
theorem dX7_fetch_66 : decode cX7_fetch 66 = .ok (.iadd, 1) := by decide +kernel
theorem dX7_fetch_67 : decode cX7_fetch 67 = .ok (.baload, 1) := by decide +kernel
theorem dX7_fetch_68 : decode cX7_fetch 68 = .ok (.ifCond .eq 7, 3) := by decide +kernel
theorem dX7_fetch_71 : decode cX7_fetch 71 = .ok (.iconst 1, 1) := by decide +kernel
theorem dX7_fetch_72 : decode cX7_fetch 72 = .ok (.goto 4, 3) := by decide +kernel
theorem dX7_fetch_75 : decode cX7_fetch 75 = .ok (.iconst 0, 1) := by decide +kernel
theorem dX7_fetch_76 : decode cX7_fetch 76 = .ok (.istore 5, 2) := by decide +kernel
theorem dX7_fetch_78 : decode cX7_fetch 78 = .ok (.iload 4, 2) := by decide +kernel
theorem dX7_fetch_80 : decode cX7_fetch 80 = .ok (.ifCond .eq 17, 3) := by decide +kernel
theorem dX7_fetch_83 : decode cX7_fetch 83 = .ok (.iload 5, 2) := by decide +kernel
theorem dX7_fetch_85 : decode cX7_fetch 85 = .ok (.ifCond .ne 12, 3) := by decide +kernel
theorem dX7_fetch_88 : decode cX7_fetch 88 = .ok (.aload_n 0, 1) := by decide +kernel
theorem dX7_fetch_89 : decode cX7_fetch 89 = .ok (.iload_n 1, 1) := by decide +kernel
theorem dX7_fetch_90 : decode cX7_fetch 90 = .ok (.iload_n 2, 1) := by decide +kernel
theorem dX7_fetch_91 : decode cX7_fetch 91 = .ok (.invokevirtual 105, 3) := by decide +kernel
theorem dX7_fetch_94 : decode cX7_fetch 94 = .ok (.goto 4, 3) := by decide +kernel
theorem dX7_fetch_97 : decode cX7_fetch 97 = .ok (.iconst (-1), 1) := by decide +kernel
theorem dX7_fetch_98 : decode cX7_fetch 98 = .ok (.istore 6, 2) := by decide +kernel
theorem dX7_fetch_100 : decode cX7_fetch 100 = .ok (.iload 6, 2) := by decide +kernel
theorem dX7_fetch_102 : decode cX7_fetch 102 = .ok (.iconst (-1), 1) := by decide +kernel
theorem dX7_fetch_103 : decode cX7_fetch 103 = .ok (.if_icmp .eq 23, 3) := by decide +kernel
theorem dX7_fetch_106 : decode cX7_fetch 106 = .ok (.aload_n 0, 1) := by decide +kernel
theorem dX7_fetch_107 : decode cX7_fetch 107 = .ok (.getfield 17, 3) := by decide +kernel
theorem dX7_fetch_110 : decode cX7_fetch 110 = .ok (.iload 6, 2) := by decide +kernel
theorem dX7_fetch_112 : decode cX7_fetch 112 = .ok (.iaload, 1) := by decide +kernel
theorem dX7_fetch_113 : decode cX7_fetch 113 = .ok (.aload_n 0, 1) := by decide +kernel
theorem dX7_fetch_114 : decode cX7_fetch 114 = .ok (.getfield 32, 3) := by decide +kernel
theorem dX7_fetch_117 : decode cX7_fetch 117 = .ok (.iload_n 2, 1) := by decide +kernel
theorem dX7_fetch_118 : decode cX7_fetch 118 = .ok (.iaload, 1) := by decide +kernel
theorem dX7_fetch_119 : decode cX7_fetch 119 = .ok (.if_icmp .lt 7, 3) := by decide +kernel
theorem dX7_fetch_122 : decode cX7_fetch 122 = .ok (.iconst 1, 1) := by decide +kernel
theorem dX7_fetch_123 : decode cX7_fetch 123 = .ok (.goto 4, 3) := by decide +kernel
theorem dX7_fetch_126 : decode cX7_fetch 126 = .ok (.iconst 0, 1) := by decide +kernel
theorem dX7_fetch_127 : decode cX7_fetch 127 = .ok (.istore 7, 2) := by decide +kernel
theorem dX7_fetch_129 : decode cX7_fetch 129 = .ok (.aload_n 0, 1) := by decide +kernel
theorem dX7_fetch_130 : decode cX7_fetch 130 = .ok (.iload_n 3, 1) := by decide +kernel
theorem dX7_fetch_131 : decode cX7_fetch 131 = .ok (.ifCond .ne 7, 3) := by decide +kernel
theorem dX7_fetch_134 : decode cX7_fetch 134 = .ok (.iconst 1, 1) := by decide +kernel
theorem dX7_fetch_135 : decode cX7_fetch 135 = .ok (.goto 36, 3) := by decide +kernel
theorem dX7_fetch_138 : decode cX7_fetch 138 = .ok (.iload 4, 2) := by decide +kernel
theorem dX7_fetch_140 : decode cX7_fetch 140 = .ok (.ifCond .eq 26, 3) := by decide +kernel
theorem dX7_fetch_143 : decode cX7_fetch 143 = .ok (.iload 5, 2) := by decide +kernel
theorem dX7_fetch_145 : decode cX7_fetch 145 = .ok (.ifCond .ne 25, 3) := by decide +kernel
theorem dX7_fetch_148 : decode cX7_fetch 148 = .ok (.iload 7, 2) := by decide +kernel
theorem dX7_fetch_150 : decode cX7_fetch 150 = .ok (.ifCond .ne 20, 3) := by decide +kernel
theorem dX7_fetch_153 : decode cX7_fetch 153 = .ok (.aload_n 0, 1) := by decide +kernel
theorem dX7_fetch_154 : decode cX7_fetch 154 = .ok (.invokevirtual 125, 3) := by decide +kernel
theorem dX7_fetch_157 : decode cX7_fetch 157 = .ok (.aload_n 0, 1) := by decide +kernel
theorem dX7_fetch_158 : decode cX7_fetch 158 = .ok (.getfield 32, 3) := by decide +kernel
theorem dX7_fetch_161 : decode cX7_fetch 161 = .ok (.iload_n 2, 1) := by decide +kernel
theorem dX7_fetch_162 : decode cX7_fetch 162 = .ok (.iaload, 1) := by decide +kernel
theorem dX7_fetch_163 : decode cX7_fetch 163 = .ok (.if_icmp .ge 7, 3) := by decide +kernel
theorem dX7_fetch_166 : decode cX7_fetch 166 = .ok (.iconst 2, 1) := by decide +kernel
theorem dX7_fetch_167 : decode cX7_fetch 167 = .ok (.goto 4, 3) := by decide +kernel
theorem dX7_fetch_170 : decode cX7_fetch 170 = .ok (.iconst 0, 1) := by decide +kernel
theorem dX7_fetch_171 : decode cX7_fetch 171 = .ok (.invokevirtual 94, 3) := by decide +kernel
theorem dX7_fetch_174 : decode cX7_fetch 174 = .ok (.ifCond .eq 5, 3) := by decide +kernel
theorem dX7_fetch_177 : decode cX7_fetch 177 = .ok (.iconst 0, 1) := by decide +kernel
theorem dX7_fetch_178 : decode cX7_fetch 178 = .ok (.ireturn, 1) := by decide +kernel
theorem dX7_fetch_179 : decode cX7_fetch 179 = .ok (.iload 5, 2) := by decide +kernel
theorem dX7_fetch_181 : decode cX7_fetch 181 = .ok (.ifCond .eq 7, 3) := by decide +kernel
theorem dX7_fetch_184 : decode cX7_fetch 184 = .ok (.iconst 0, 1) := by decide +kernel
theorem dX7_fetch_185 : decode cX7_fetch 185 = .ok (.goto 27, 3) := by decide +kernel
theorem dX7_fetch_188 : decode cX7_fetch 188 = .ok (.aload_n 0, 1) := by decide +kernel
theorem dX7_fetch_189 : decode cX7_fetch 189 = .ok (.getfield 32, 3) := by decide +kernel
theorem dX7_fetch_192 : decode cX7_fetch 192 = .ok (.iload_n 2, 1) := by decide +kernel
theorem dX7_fetch_193 : decode cX7_fetch 193 = .ok (.iaload, 1) := by decide +kernel
theorem dX7_fetch_194 : decode cX7_fetch 194 = .ok (.iload 7, 2) := by decide +kernel
theorem dX7_fetch_196 : decode cX7_fetch 196 = .ok (.ifCond .eq 11, 3) := by decide +kernel
theorem dX7_fetch_199 : decode cX7_fetch 199 = .ok (.aload_n 0, 1) := by decide +kernel
theorem dX7_fetch_200 : decode cX7_fetch 200 = .ok (.iconst 2, 1) := by decide +kernel
theorem dX7_fetch_201 : decode cX7_fetch 201 = .ok (.invokevirtual 82, 3) := by decide +kernel
theorem dX7_fetch_204 : decode cX7_fetch 204 = .ok (.goto 7, 3) := by decide +kernel
theorem dX7_fetch_207 : decode cX7_fetch 207 = .ok (.aload_n 0, 1) := by decide +kernel
theorem dX7_fetch_208 : decode cX7_fetch 208 = .ok (.invokevirtual 128, 3) := by decide +kernel
theorem dX7_fetch_211 : decode cX7_fetch 211 = .ok (.imul, 1) := by decide +kernel
theorem dX7_fetch_212 : decode cX7_fetch 212 = .ok (.istore 8, 2) := by decide +kernel
theorem dX7_fetch_214 : decode cX7_fetch 214 = .ok (.iload 7, 2) := by decide +kernel
theorem dX7_fetch_216 : decode cX7_fetch 216 = .ok (.ifCond .eq 34, 3) := by decide +kernel
theorem dX7_fetch_219 : decode cX7_fetch 219 = .ok (.aload_n 0, 1) := by decide +kernel
theorem dX7_fetch_220 : decode cX7_fetch 220 = .ok (.getfield 17, 3) := by decide +kernel
theorem dX7_fetch_223 : decode cX7_fetch 223 = .ok (.iload 6, 2) := by decide +kernel
theorem dX7_fetch_225 : decode cX7_fetch 225 = .ok (.dup2, 1) := by decide +kernel
theorem dX7_fetch_226 : decode cX7_fetch 226 = .ok (.iaload, 1) := by decide +kernel
theorem dX7_fetch_227 : decode cX7_fetch 227 = .ok (.aload_n 0, 1) := by decide +kernel
theorem dX7_fetch_228 : decode cX7_fetch 228 = .ok (.getfield 32, 3) := by decide +kernel
theorem dX7_fetch_231 : decode cX7_fetch 231 = .ok (.iload_n 2, 1) := by decide +kernel
theorem dX7_fetch_232 : decode cX7_fetch 232 = .ok (.iaload, 1) := by decide +kernel
theorem dX7_fetch_233 : decode cX7_fetch 233 = .ok (.isub, 1) := by decide +kernel
theorem dX7_fetch_234 : decode cX7_fetch 234 = .ok (.iastore, 1) := by decide +kernel
theorem dX7_fetch_235 : decode cX7_fetch 235 = .ok (.aload_n 0, 1) := by decide +kernel
theorem dX7_fetch_236 : decode cX7_fetch 236 = .ok (.getfield 23, 3) := by decide +kernel
theorem dX7_fetch_239 : decode cX7_fetch 239 = .ok (.iload 6, 2) := by decide +kernel
theorem dX7_fetch_241 : decode cX7_fetch 241 = .ok (.dup2, 1) := by decide +kernel
theorem dX7_fetch_242 : decode cX7_fetch 242 = .ok (.iaload, 1) := by decide +kernel
theorem dX7_fetch_243 : decode cX7_fetch 243 = .ok (.iload 8, 2) := by decide +kernel
theorem dX7_fetch_245 : decode cX7_fetch 245 = .ok (.iadd, 1) := by decide +kernel
theorem dX7_fetch_246 : decode cX7_fetch 246 = .ok (.iastore, 1) := by decide +kernel
theorem dX7_fetch_247 : decode cX7_fetch 247 = .ok (.goto 14, 3) := by decide +kernel
theorem dX7_fetch_250 : decode cX7_fetch 250 = .ok (.iload 5, 2) := by decide +kernel
theorem dX7_fetch_252 : decode cX7_fetch 252 = .ok (.ifCond .ne 9, 3) := by decide +kernel
theorem dX7_fetch_255 : decode cX7_fetch 255 = .ok (.aload_n 0, 1) := by decide +kernel
theorem dX7_fetch_256 : decode cX7_fetch 256 = .ok (.iload_n 1, 1) := by decide +kernel
theorem dX7_fetch_257 : decode cX7_fetch 257 = .ok (.iload_n 2, 1) := by decide +kernel
theorem dX7_fetch_258 : decode cX7_fetch 258 = .ok (.invokevirtual 131, 3) := by decide +kernel
theorem dX7_fetch_261 : decode cX7_fetch 261 = .ok (.aload_n 0, 1) := by decide +kernel
theorem dX7_fetch_262 : decode cX7_fetch 262 = .ok (.getfield 23, 3) := by decide +kernel
theorem dX7_fetch_265 : decode cX7_fetch 265 = .ok (.iload_n 1, 1) := by decide +kernel
theorem dX7_fetch_266 : decode cX7_fetch 266 = .ok (.dup2, 1) := by decide +kernel
theorem dX7_fetch_267 : decode cX7_fetch 267 = .ok (.iaload, 1) := by decide +kernel
theorem dX7_fetch_268 : decode cX7_fetch 268 = .ok (.iload 8, 2) := by decide +kernel
theorem dX7_fetch_270 : decode cX7_fetch 270 = .ok (.isub, 1) := by decide +kernel
theorem dX7_fetch_271 : decode cX7_fetch 271 = .ok (.iastore, 1) := by decide +kernel
theorem dX7_fetch_272 : decode cX7_fetch 272 = .ok (.aload_n 0, 1) := by decide +kernel
theorem dX7_fetch_273 : decode cX7_fetch 273 = .ok (.getfield 35, 3) := by decide +kernel
theorem dX7_fetch_276 : decode cX7_fetch 276 = .ok (.iload_n 2, 1) := by decide +kernel
theorem dX7_fetch_277 : decode cX7_fetch 277 = .ok (.dup2, 1) := by decide +kernel
theorem dX7_fetch_278 : decode cX7_fetch 278 = .ok (.iaload, 1) := by decide +kernel
theorem dX7_fetch_279 : decode cX7_fetch 279 = .ok (.iconst 1, 1) := by decide +kernel
theorem dX7_fetch_280 : decode cX7_fetch 280 = .ok (.iadd, 1) := by decide +kernel
theorem dX7_fetch_281 : decode cX7_fetch 281 = .ok (.iastore, 1) := by decide +kernel
theorem dX7_fetch_282 : decode cX7_fetch 282 = .ok (.aload_n 0, 1) := by decide +kernel
theorem dX7_fetch_283 : decode cX7_fetch 283 = .ok (.getfield 26, 3) := by decide +kernel
theorem dX7_fetch_286 : decode cX7_fetch 286 = .ok (.iload_n 1, 1) := by decide +kernel
theorem dX7_fetch_287 : decode cX7_fetch 287 = .ok (.dup2, 1) := by decide +kernel
theorem dX7_fetch_288 : decode cX7_fetch 288 = .ok (.iaload, 1) := by decide +kernel
theorem dX7_fetch_289 : decode cX7_fetch 289 = .ok (.iconst 1, 1) := by decide +kernel
theorem dX7_fetch_290 : decode cX7_fetch 290 = .ok (.iadd, 1) := by decide +kernel
theorem dX7_fetch_291 : decode cX7_fetch 291 = .ok (.iastore, 1) := by decide +kernel
theorem dX7_fetch_292 : decode cX7_fetch 292 = .ok (.aload_n 0, 1) := by decide +kernel
theorem dX7_fetch_293 : decode cX7_fetch 293 = .ok (.dup, 1) := by decide +kernel
theorem dX7_fetch_294 : decode cX7_fetch 294 = .ok (.getfield 122, 3) := by decide +kernel
theorem dX7_fetch_297 : decode cX7_fetch 297 = .ok (.iconst 1, 1) := by decide +kernel
theorem dX7_fetch_298 : decode cX7_fetch 298 = .ok (.iadd, 1) := by decide +kernel
theorem dX7_fetch_299 : decode cX7_fetch 299 = .ok (.putfield 122, 3) := by decide +kernel
theorem dX7_fetch_302 : decode cX7_fetch 302 = .ok (.iload 5, 2) := by decide +kernel
theorem dX7_fetch_304 : decode cX7_fetch 304 = .ok (.ifCond .ne 14, 3) := by decide +kernel
theorem dX7_fetch_307 : decode cX7_fetch 307 = .ok (.iload 7, 2) := by decide +kernel
theorem dX7_fetch_309 : decode cX7_fetch 309 = .ok (.ifCond .ne 9, 3) := by decide +kernel
theorem dX7_fetch_312 : decode cX7_fetch 312 = .ok (.aload_n 0, 1) := by decide +kernel
theorem dX7_fetch_313 : decode cX7_fetch 313 = .ok (.iload_n 1, 1) := by decide +kernel
theorem dX7_fetch_314 : decode cX7_fetch 314 = .ok (.iload_n 2, 1) := by decide +kernel
theorem dX7_fetch_315 : decode cX7_fetch 315 = .ok (.invokevirtual 135, 3) := by decide +kernel
theorem dX7_fetch_318 : decode cX7_fetch 318 = .ok (.iload 8, 2) := by decide +kernel
theorem dX7_fetch_320 : decode cX7_fetch 320 = .ok (.ireturn, 1) := by decide +kernel
theorem dX7_pass_0 : decode cX7_pass 0 = .ok (.aload_n 0, 1) := by decide +kernel
theorem dX7_pass_1 : decode cX7_pass 1 = .ok (.iload_n 1, 1) := by decide +kernel
theorem dX7_pass_2 : decode cX7_pass 2 = .ok (.iconst 1, 1) := by decide +kernel
theorem dX7_pass_3 : decode cX7_pass 3 = .ok (.bipush 100, 2) := by decide +kernel
theorem dX7_pass_5 : decode cX7_pass 5 = .ok (.invokestatic 69, 3) := by decide +kernel
theorem dX7_pass_8 : decode cX7_pass 8 = .ok (.ifCond .ne 7, 3) := by decide +kernel
theorem dX7_pass_11 : decode cX7_pass 11 = .ok (.iconst 1, 1) := by decide +kernel
theorem dX7_pass_12 : decode cX7_pass 12 = .ok (.goto 20, 3) := by decide +kernel
theorem dX7_pass_15 : decode cX7_pass 15 = .ok (.aload_n 0, 1) := by decide +kernel
theorem dX7_pass_16 : decode cX7_pass 16 = .ok (.getfield 79, 3) := by decide +kernel
theorem dX7_pass_19 : decode cX7_pass 19 = .ok (.iload_n 1, 1) := by decide +kernel
theorem dX7_pass_20 : decode cX7_pass 20 = .ok (.iadd, 1) := by decide +kernel
theorem dX7_pass_21 : decode cX7_pass 21 = .ok (.sipush 2000, 3) := by decide +kernel
theorem dX7_pass_24 : decode cX7_pass 24 = .ok (.if_icmp .le 7, 3) := by decide +kernel
theorem dX7_pass_27 : decode cX7_pass 27 = .ok (.iconst 2, 1) := by decide +kernel
theorem dX7_pass_28 : decode cX7_pass 28 = .ok (.goto 4, 3) := by decide +kernel
theorem dX7_pass_31 : decode cX7_pass 31 = .ok (.iconst 0, 1) := by decide +kernel
theorem dX7_pass_32 : decode cX7_pass 32 = .ok (.invokevirtual 94, 3) := by decide +kernel
theorem dX7_pass_35 : decode cX7_pass 35 = .ok (.ifCond .eq 5, 3) := by decide +kernel
theorem dX7_pass_38 : decode cX7_pass 38 = .ok (.iconst 0, 1) := by decide +kernel
theorem dX7_pass_39 : decode cX7_pass 39 = .ok (.ireturn, 1) := by decide +kernel
theorem dX7_pass_40 : decode cX7_pass 40 = .ok (.aload_n 0, 1) := by decide +kernel
theorem dX7_pass_41 : decode cX7_pass 41 = .ok (.dup, 1) := by decide +kernel
theorem dX7_pass_42 : decode cX7_pass 42 = .ok (.getfield 79, 3) := by decide +kernel
theorem dX7_pass_45 : decode cX7_pass 45 = .ok (.iload_n 1, 1) := by decide +kernel
theorem dX7_pass_46 : decode cX7_pass 46 = .ok (.iadd, 1) := by decide +kernel
theorem dX7_pass_47 : decode cX7_pass 47 = .ok (.putfield 79, 3) := by decide +kernel
theorem dX7_pass_50 : decode cX7_pass 50 = .ok (.iconst 0, 1) := by decide +kernel
theorem dX7_pass_51 : decode cX7_pass 51 = .ok (.istore_n 2, 1) := by decide +kernel
theorem dX7_pass_52 : decode cX7_pass 52 = .ok (.iload_n 2, 1) := by decide +kernel
theorem dX7_pass_53 : decode cX7_pass 53 = .ok (.aload_n 0, 1) := by decide +kernel
theorem dX7_pass_54 : decode cX7_pass 54 = .ok (.getfield 66, 3) := by decide +kernel
theorem dX7_pass_57 : decode cX7_pass 57 = .ok (.if_icmp .ge 21, 3) := by decide +kernel
theorem dX7_pass_60 : decode cX7_pass 60 = .ok (.aload_n 0, 1) := by decide +kernel
theorem dX7_pass_61 : decode cX7_pass 61 = .ok (.getfield 17, 3) := by decide +kernel
theorem dX7_pass_64 : decode cX7_pass 64 = .ok (.iload_n 2, 1) := by decide +kernel
theorem dX7_pass_65 : decode cX7_pass 65 = .ok (.aload_n 0, 1) := by decide +kernel
theorem dX7_pass_66 : decode cX7_pass 66 = .ok (.getfield 13, 3) := by decide +kernel
theorem dX7_pass_69 : decode cX7_pass 69 = .ok (.iload_n 2, 1) := by decide +kernel
theorem dX7_pass_70 : decode cX7_pass 70 = .ok (.iaload, 1) := by decide +kernel
theorem dX7_pass_71 : decode cX7_pass 71 = .ok (.iastore, 1) := by decide +kernel
theorem dX7_pass_72 : decode cX7_pass 72 = .ok (.iinc 2 1, 3) := by decide +kernel
theorem dX7_pass_75 : decode cX7_pass 75 = .ok (.goto (-23), 3) := by decide +kernel
theorem dX7_pass_78 : decode cX7_pass 78 = .ok (.aload_n 0, 1) := by decide +kernel
theorem dX7_pass_79 : decode cX7_pass 79 = .ok (.getfield 79, 3) := by decide +kernel
theorem dX7_pass_82 : decode cX7_pass 82 = .ok (.ireturn, 1) := by decide +kernel
theorem dX7_propose_0 : decode cX7_propose 0 = .ok (.aload_n 0, 1) := by decide +kernel
theorem dX7_propose_1 : decode cX7_propose 1 = .ok (.iload_n 1, 1) := by decide +kernel
theorem dX7_propose_2 : decode cX7_propose 2 = .ok (.invokevirtual 98, 3) := by decide +kernel
theorem dX7_propose_5 : decode cX7_propose 5 = .ok (.ifCond .eq 14, 3) := by decide +kernel
theorem dX7_propose_8 : decode cX7_propose 8 = .ok (.iload_n 2, 1) := by decide +kernel
theorem dX7_propose_9 : decode cX7_propose 9 = .ok (.invokestatic 138, 3) := by decide +kernel
theorem dX7_propose_12 : decode cX7_propose 12 = .ok (.ifCond .eq 7, 3) := by decide +kernel
theorem dX7_propose_15 : decode cX7_propose 15 = .ok (.iconst 1, 1) := by decide +kernel
theorem dX7_propose_16 : decode cX7_propose 16 = .ok (.goto 4, 3) := by decide +kernel
theorem dX7_propose_19 : decode cX7_propose 19 = .ok (.iconst 0, 1) := by decide +kernel
theorem dX7_propose_20 : decode cX7_propose 20 = .ok (.istore 4, 2) := by decide +kernel
theorem dX7_propose_22 : decode cX7_propose 22 = .ok (.aload_n 0, 1) := by decide +kernel
theorem dX7_propose_23 : decode cX7_propose 23 = .ok (.iload 4, 2) := by decide +kernel
theorem dX7_propose_25 : decode cX7_propose 25 = .ok (.ifCond .ne 7, 3) := by decide +kernel
theorem dX7_propose_28 : decode cX7_propose 28 = .ok (.iconst 1, 1) := by decide +kernel
theorem dX7_propose_29 : decode cX7_propose 29 = .ok (.goto 40, 3) := by decide +kernel
theorem dX7_propose_32 : decode cX7_propose 32 = .ok (.iload_n 3, 1) := by decide +kernel
theorem dX7_propose_33 : decode cX7_propose 33 = .ok (.iconst 0, 1) := by decide +kernel
theorem dX7_propose_34 : decode cX7_propose 34 = .ok (.bipush 9, 2) := by decide +kernel
theorem dX7_propose_36 : decode cX7_propose 36 = .ok (.invokestatic 69, 3) := by decide +kernel
theorem dX7_propose_39 : decode cX7_propose 39 = .ok (.ifCond .ne 7, 3) := by decide +kernel
theorem dX7_propose_42 : decode cX7_propose 42 = .ok (.iconst 2, 1) := by decide +kernel
theorem dX7_propose_43 : decode cX7_propose 43 = .ok (.goto 26, 3) := by decide +kernel
theorem dX7_propose_46 : decode cX7_propose 46 = .ok (.aload_n 0, 1) := by decide +kernel
theorem dX7_propose_47 : decode cX7_propose 47 = .ok (.getfield 7, 3) := by decide +kernel
theorem dX7_propose_50 : decode cX7_propose 50 = .ok (.iload_n 1, 1) := by decide +kernel
theorem dX7_propose_51 : decode cX7_propose 51 = .ok (.baload, 1) := by decide +kernel
theorem dX7_propose_52 : decode cX7_propose 52 = .ok (.ifCond .eq 12, 3) := by decide +kernel
theorem dX7_propose_55 : decode cX7_propose 55 = .ok (.aload_n 0, 1) := by decide +kernel
theorem dX7_propose_56 : decode cX7_propose 56 = .ok (.getfield 76, 3) := by decide +kernel
theorem dX7_propose_59 : decode cX7_propose 59 = .ok (.bipush 30, 2) := by decide +kernel
theorem dX7_propose_61 : decode cX7_propose 61 = .ok (.if_icmp .ne 7, 3) := by decide +kernel
theorem dX7_propose_64 : decode cX7_propose 64 = .ok (.iconst 3, 1) := by decide +kernel
theorem dX7_propose_65 : decode cX7_propose 65 = .ok (.goto 4, 3) := by decide +kernel
theorem dX7_propose_68 : decode cX7_propose 68 = .ok (.iconst 0, 1) := by decide +kernel
theorem dX7_propose_69 : decode cX7_propose 69 = .ok (.invokevirtual 94, 3) := by decide +kernel
theorem dX7_propose_72 : decode cX7_propose 72 = .ok (.ifCond .eq 5, 3) := by decide +kernel
theorem dX7_propose_75 : decode cX7_propose 75 = .ok (.iconst 0, 1) := by decide +kernel
theorem dX7_propose_76 : decode cX7_propose 76 = .ok (.ireturn, 1) := by decide +kernel
theorem dX7_propose_77 : decode cX7_propose 77 = .ok (.aload_n 0, 1) := by decide +kernel
theorem dX7_propose_78 : decode cX7_propose 78 = .ok (.getfield 44, 3) := by decide +kernel
theorem dX7_propose_81 : decode cX7_propose 81 = .ok (.aload_n 0, 1) := by decide +kernel
theorem dX7_propose_82 : decode cX7_propose 82 = .ok (.getfield 76, 3) := by decide +kernel
theorem dX7_propose_85 : decode cX7_propose 85 = .ok (.iload_n 2, 1) := by decide +kernel
theorem dX7_propose_86 : decode cX7_propose 86 = .ok (.iastore, 1) := by decide +kernel
theorem dX7_propose_87 : decode cX7_propose 87 = .ok (.aload_n 0, 1) := by decide +kernel
theorem dX7_propose_88 : decode cX7_propose 88 = .ok (.getfield 47, 3) := by decide +kernel
theorem dX7_propose_91 : decode cX7_propose 91 = .ok (.aload_n 0, 1) := by decide +kernel
theorem dX7_propose_92 : decode cX7_propose 92 = .ok (.getfield 76, 3) := by decide +kernel
theorem dX7_propose_95 : decode cX7_propose 95 = .ok (.iload_n 3, 1) := by decide +kernel
theorem dX7_propose_96 : decode cX7_propose 96 = .ok (.iastore, 1) := by decide +kernel
theorem dX7_propose_97 : decode cX7_propose 97 = .ok (.aload_n 0, 1) := by decide +kernel
theorem dX7_propose_98 : decode cX7_propose 98 = .ok (.dup, 1) := by decide +kernel
theorem dX7_propose_99 : decode cX7_propose 99 = .ok (.getfield 76, 3) := by decide +kernel
theorem dX7_propose_102 : decode cX7_propose 102 = .ok (.iconst 1, 1) := by decide +kernel
theorem dX7_propose_103 : decode cX7_propose 103 = .ok (.iadd, 1) := by decide +kernel
theorem dX7_propose_104 : decode cX7_propose 104 = .ok (.putfield 76, 3) := by decide +kernel
theorem dX7_propose_107 : decode cX7_propose 107 = .ok (.aload_n 0, 1) := by decide +kernel
theorem dX7_propose_108 : decode cX7_propose 108 = .ok (.getfield 76, 3) := by decide +kernel
theorem dX7_propose_111 : decode cX7_propose 111 = .ok (.iconst 1, 1) := by decide +kernel
theorem dX7_propose_112 : decode cX7_propose 112 = .ok (.isub, 1) := by decide +kernel
theorem dX7_propose_113 : decode cX7_propose 113 = .ok (.ireturn, 1) := by decide +kernel
theorem dX7_isProposal_0 : decode cX7_isProposal 0 = .ok (.iload_n 1, 1) := by decide +kernel
theorem dX7_isProposal_1 : decode cX7_isProposal 1 = .ok (.iconst 0, 1) := by decide +kernel
theorem dX7_isProposal_2 : decode cX7_isProposal 2 = .ok (.aload_n 0, 1) := by decide +kernel
theorem dX7_isProposal_3 : decode cX7_isProposal 3 = .ok (.getfield 76, 3) := by decide +kernel
theorem dX7_isProposal_6 : decode cX7_isProposal 6 = .ok (.iconst 1, 1) := by decide +kernel
theorem dX7_isProposal_7 : decode cX7_isProposal 7 = .ok (.isub, 1) := by decide +kernel
theorem dX7_isProposal_8 : decode cX7_isProposal 8 = .ok (.invokestatic 69, 3) := by decide +kernel
theorem dX7_isProposal_11 : decode cX7_isProposal 11 = .ok (.ireturn, 1) := by decide +kernel
theorem dX7_vote_0 : decode cX7_vote 0 = .ok (.aload_n 0, 1) := by decide +kernel
theorem dX7_vote_1 : decode cX7_vote 1 = .ok (.iload_n 1, 1) := by decide +kernel
theorem dX7_vote_2 : decode cX7_vote 2 = .ok (.invokevirtual 98, 3) := by decide +kernel
theorem dX7_vote_5 : decode cX7_vote 5 = .ok (.ifCond .eq 15, 3) := by decide +kernel
theorem dX7_vote_8 : decode cX7_vote 8 = .ok (.aload_n 0, 1) := by decide +kernel
theorem dX7_vote_9 : decode cX7_vote 9 = .ok (.iload_n 2, 1) := by decide +kernel
theorem dX7_vote_10 : decode cX7_vote 10 = .ok (.invokevirtual 141, 3) := by decide +kernel
theorem dX7_vote_13 : decode cX7_vote 13 = .ok (.ifCond .eq 7, 3) := by decide +kernel
theorem dX7_vote_16 : decode cX7_vote 16 = .ok (.iconst 1, 1) := by decide +kernel
theorem dX7_vote_17 : decode cX7_vote 17 = .ok (.goto 4, 3) := by decide +kernel
theorem dX7_vote_20 : decode cX7_vote 20 = .ok (.iconst 0, 1) := by decide +kernel
theorem dX7_vote_21 : decode cX7_vote 21 = .ok (.istore 4, 2) := by decide +kernel
theorem dX7_vote_23 : decode cX7_vote 23 = .ok (.aload_n 0, 1) := by decide +kernel
theorem dX7_vote_24 : decode cX7_vote 24 = .ok (.iload 4, 2) := by decide +kernel
theorem dX7_vote_26 : decode cX7_vote 26 = .ok (.ifCond .ne 7, 3) := by decide +kernel
theorem dX7_vote_29 : decode cX7_vote 29 = .ok (.iconst 1, 1) := by decide +kernel
theorem dX7_vote_30 : decode cX7_vote 30 = .ok (.goto 26, 3) := by decide +kernel
theorem dX7_vote_33 : decode cX7_vote 33 = .ok (.aload_n 0, 1) := by decide +kernel
theorem dX7_vote_34 : decode cX7_vote 34 = .ok (.getfield 7, 3) := by decide +kernel
theorem dX7_vote_37 : decode cX7_vote 37 = .ok (.iload_n 1, 1) := by decide +kernel
theorem dX7_vote_38 : decode cX7_vote 38 = .ok (.baload, 1) := by decide +kernel
theorem dX7_vote_39 : decode cX7_vote 39 = .ok (.ifCond .eq 12, 3) := by decide +kernel
theorem dX7_vote_42 : decode cX7_vote 42 = .ok (.aload_n 0, 1) := by decide +kernel
theorem dX7_vote_43 : decode cX7_vote 43 = .ok (.getfield 41, 3) := by decide +kernel
theorem dX7_vote_46 : decode cX7_vote 46 = .ok (.iload_n 2, 1) := by decide +kernel
theorem dX7_vote_47 : decode cX7_vote 47 = .ok (.iaload, 1) := by decide +kernel
theorem dX7_vote_48 : decode cX7_vote 48 = .ok (.ifCond .eq 7, 3) := by decide +kernel
theorem dX7_vote_51 : decode cX7_vote 51 = .ok (.iconst 2, 1) := by decide +kernel
theorem dX7_vote_52 : decode cX7_vote 52 = .ok (.goto 4, 3) := by decide +kernel
theorem dX7_vote_55 : decode cX7_vote 55 = .ok (.iconst 0, 1) := by decide +kernel
theorem dX7_vote_56 : decode cX7_vote 56 = .ok (.invokevirtual 94, 3) := by decide +kernel
theorem dX7_vote_59 : decode cX7_vote 59 = .ok (.ifCond .eq 5, 3) := by decide +kernel
theorem dX7_vote_62 : decode cX7_vote 62 = .ok (.iconst 0, 1) := by decide +kernel
theorem dX7_vote_63 : decode cX7_vote 63 = .ok (.ireturn, 1) := by decide +kernel
theorem dX7_vote_64 : decode cX7_vote 64 = .ok (.aload_n 0, 1) := by decide +kernel
theorem dX7_vote_65 : decode cX7_vote 65 = .ok (.getfield 53, 3) := by decide +kernel
theorem dX7_vote_68 : decode cX7_vote 68 = .ok (.bipush 10, 2) := by decide +kernel
theorem dX7_vote_70 : decode cX7_vote 70 = .ok (.iload_n 2, 1) := by decide +kernel
theorem dX7_vote_71 : decode cX7_vote 71 = .ok (.imul, 1) := by decide +kernel
theorem dX7_vote_72 : decode cX7_vote 72 = .ok (.iload_n 1, 1) := by decide +kernel
theorem dX7_vote_73 : decode cX7_vote 73 = .ok (.iadd, 1) := by decide +kernel
theorem dX7_vote_74 : decode cX7_vote 74 = .ok (.iload_n 3, 1) := by decide +kernel
theorem dX7_vote_75 : decode cX7_vote 75 = .ok (.ifCond .eq 7, 3) := by decide +kernel
theorem dX7_vote_78 : decode cX7_vote 78 = .ok (.iconst 1, 1) := by decide +kernel
theorem dX7_vote_79 : decode cX7_vote 79 = .ok (.goto 4, 3) := by decide +kernel
theorem dX7_vote_82 : decode cX7_vote 82 = .ok (.iconst 2, 1) := by decide +kernel
theorem dX7_vote_83 : decode cX7_vote 83 = .ok (.iastore, 1) := by decide +kernel
theorem dX7_vote_84 : decode cX7_vote 84 = .ok (.aload_n 0, 1) := by decide +kernel
theorem dX7_vote_85 : decode cX7_vote 85 = .ok (.iload_n 2, 1) := by decide +kernel
theorem dX7_vote_86 : decode cX7_vote 86 = .ok (.invokevirtual 101, 3) := by decide +kernel
theorem dX7_vote_89 : decode cX7_vote 89 = .ok (.aload_n 0, 1) := by decide +kernel
theorem dX7_vote_90 : decode cX7_vote 90 = .ok (.getfield 41, 3) := by decide +kernel
theorem dX7_vote_93 : decode cX7_vote 93 = .ok (.iload_n 2, 1) := by decide +kernel
theorem dX7_vote_94 : decode cX7_vote 94 = .ok (.iaload, 1) := by decide +kernel
theorem dX7_vote_95 : decode cX7_vote 95 = .ok (.ireturn, 1) := by decide +kernel
theorem dX7_rule_0 : decode cX7_rule 0 = .ok (.aload_n 0, 1) := by decide +kernel
theorem dX7_rule_1 : decode cX7_rule 1 = .ok (.iload_n 1, 1) := by decide +kernel
theorem dX7_rule_2 : decode cX7_rule 2 = .ok (.invokestatic 138, 3) := by decide +kernel
theorem dX7_rule_5 : decode cX7_rule 5 = .ok (.ifCond .eq 7, 3) := by decide +kernel
theorem dX7_rule_8 : decode cX7_rule 8 = .ok (.iconst 0, 1) := by decide +kernel
theorem dX7_rule_9 : decode cX7_rule 9 = .ok (.goto 4, 3) := by decide +kernel
theorem dX7_rule_12 : decode cX7_rule 12 = .ok (.iconst 1, 1) := by decide +kernel
theorem dX7_rule_13 : decode cX7_rule 13 = .ok (.invokevirtual 94, 3) := by decide +kernel
theorem dX7_rule_16 : decode cX7_rule 16 = .ok (.ifCond .eq 7, 3) := by decide +kernel
theorem dX7_rule_19 : decode cX7_rule 19 = .ok (.iconst 0, 1) := by decide +kernel
theorem dX7_rule_20 : decode cX7_rule 20 = .ok (.goto 8, 3) := by decide +kernel
theorem dX7_rule_23 : decode cX7_rule 23 = .ok (.aload_n 0, 1) := by decide +kernel
theorem dX7_rule_24 : decode cX7_rule 24 = .ok (.iload_n 1, 1) := by decide +kernel
theorem dX7_rule_25 : decode cX7_rule 25 = .ok (.invokevirtual 82, 3) := by decide +kernel
theorem dX7_rule_28 : decode cX7_rule 28 = .ok (.ireturn, 1) := by decide +kernel
theorem dX7_proposal_0 : decode cX7_proposal 0 = .ok (.aload_n 0, 1) := by decide +kernel
theorem dX7_proposal_1 : decode cX7_proposal 1 = .ok (.aload_n 0, 1) := by decide +kernel
theorem dX7_proposal_2 : decode cX7_proposal 2 = .ok (.iload_n 1, 1) := by decide +kernel
theorem dX7_proposal_3 : decode cX7_proposal 3 = .ok (.invokevirtual 141, 3) := by decide +kernel
theorem dX7_proposal_6 : decode cX7_proposal 6 = .ok (.ifCond .ne 7, 3) := by decide +kernel
theorem dX7_proposal_9 : decode cX7_proposal 9 = .ok (.iconst 1, 1) := by decide +kernel
theorem dX7_proposal_10 : decode cX7_proposal 10 = .ok (.goto 17, 3) := by decide +kernel
theorem dX7_proposal_13 : decode cX7_proposal 13 = .ok (.iload_n 2, 1) := by decide +kernel
theorem dX7_proposal_14 : decode cX7_proposal 14 = .ok (.iconst 0, 1) := by decide +kernel
theorem dX7_proposal_15 : decode cX7_proposal 15 = .ok (.iconst 4, 1) := by decide +kernel
theorem dX7_proposal_16 : decode cX7_proposal 16 = .ok (.invokestatic 69, 3) := by decide +kernel
theorem dX7_proposal_19 : decode cX7_proposal 19 = .ok (.ifCond .ne 7, 3) := by decide +kernel
theorem dX7_proposal_22 : decode cX7_proposal 22 = .ok (.iconst 2, 1) := by decide +kernel
theorem dX7_proposal_23 : decode cX7_proposal 23 = .ok (.goto 4, 3) := by decide +kernel
theorem dX7_proposal_26 : decode cX7_proposal 26 = .ok (.iconst 0, 1) := by decide +kernel
theorem dX7_proposal_27 : decode cX7_proposal 27 = .ok (.invokevirtual 94, 3) := by decide +kernel
theorem dX7_proposal_30 : decode cX7_proposal 30 = .ok (.ifCond .eq 5, 3) := by decide +kernel
theorem dX7_proposal_33 : decode cX7_proposal 33 = .ok (.iconst 0, 1) := by decide +kernel
theorem dX7_proposal_34 : decode cX7_proposal 34 = .ok (.ireturn, 1) := by decide +kernel
theorem dX7_proposal_35 : decode cX7_proposal 35 = .ok (.iload_n 2, 1) := by decide +kernel
theorem dX7_proposal_36 : decode cX7_proposal 36 = .ok (.tableswitch 78 0 3 #[32, 39, 46, 53], 32) := by decide +kernel
theorem dX7_proposal_68 : decode cX7_proposal 68 = .ok (.aload_n 0, 1) := by decide +kernel
theorem dX7_proposal_69 : decode cX7_proposal 69 = .ok (.getfield 41, 3) := by decide +kernel
theorem dX7_proposal_72 : decode cX7_proposal 72 = .ok (.iload_n 1, 1) := by decide +kernel
theorem dX7_proposal_73 : decode cX7_proposal 73 = .ok (.iaload, 1) := by decide +kernel
theorem dX7_proposal_74 : decode cX7_proposal 74 = .ok (.ireturn, 1) := by decide +kernel
theorem dX7_proposal_75 : decode cX7_proposal 75 = .ok (.aload_n 0, 1) := by decide +kernel
theorem dX7_proposal_76 : decode cX7_proposal 76 = .ok (.getfield 44, 3) := by decide +kernel
theorem dX7_proposal_79 : decode cX7_proposal 79 = .ok (.iload_n 1, 1) := by decide +kernel
theorem dX7_proposal_80 : decode cX7_proposal 80 = .ok (.iaload, 1) := by decide +kernel
theorem dX7_proposal_81 : decode cX7_proposal 81 = .ok (.ireturn, 1) := by decide +kernel
theorem dX7_proposal_82 : decode cX7_proposal 82 = .ok (.aload_n 0, 1) := by decide +kernel
theorem dX7_proposal_83 : decode cX7_proposal 83 = .ok (.getfield 47, 3) := by decide +kernel
theorem dX7_proposal_86 : decode cX7_proposal 86 = .ok (.iload_n 1, 1) := by decide +kernel
theorem dX7_proposal_87 : decode cX7_proposal 87 = .ok (.iaload, 1) := by decide +kernel
theorem dX7_proposal_88 : decode cX7_proposal 88 = .ok (.ireturn, 1) := by decide +kernel
theorem dX7_proposal_89 : decode cX7_proposal 89 = .ok (.aload_n 0, 1) := by decide +kernel
theorem dX7_proposal_90 : decode cX7_proposal 90 = .ok (.getfield 41, 3) := by decide +kernel
theorem dX7_proposal_93 : decode cX7_proposal 93 = .ok (.iload_n 1, 1) := by decide +kernel
theorem dX7_proposal_94 : decode cX7_proposal 94 = .ok (.iaload, 1) := by decide +kernel
theorem dX7_proposal_95 : decode cX7_proposal 95 = .ok (.ifCond .ne 12, 3) := by decide +kernel
theorem dX7_proposal_98 : decode cX7_proposal 98 = .ok (.aload_n 0, 1) := by decide +kernel
theorem dX7_proposal_99 : decode cX7_proposal 99 = .ok (.iload_n 1, 1) := by decide +kernel
theorem dX7_proposal_100 : decode cX7_proposal 100 = .ok (.iconst 1, 1) := by decide +kernel
theorem dX7_proposal_101 : decode cX7_proposal 101 = .ok (.invokevirtual 86, 3) := by decide +kernel
theorem dX7_proposal_104 : decode cX7_proposal 104 = .ok (.goto 9, 3) := by decide +kernel
theorem dX7_proposal_107 : decode cX7_proposal 107 = .ok (.aload_n 0, 1) := by decide +kernel
theorem dX7_proposal_108 : decode cX7_proposal 108 = .ok (.getfield 56, 3) := by decide +kernel
theorem dX7_proposal_111 : decode cX7_proposal 111 = .ok (.iload_n 1, 1) := by decide +kernel
theorem dX7_proposal_112 : decode cX7_proposal 112 = .ok (.iaload, 1) := by decide +kernel
theorem dX7_proposal_113 : decode cX7_proposal 113 = .ok (.ireturn, 1) := by decide +kernel
theorem dX7_proposal_114 : decode cX7_proposal 114 = .ok (.aload_n 0, 1) := by decide +kernel
theorem dX7_proposal_115 : decode cX7_proposal 115 = .ok (.getfield 41, 3) := by decide +kernel
theorem dX7_proposal_118 : decode cX7_proposal 118 = .ok (.iload_n 1, 1) := by decide +kernel
theorem dX7_proposal_119 : decode cX7_proposal 119 = .ok (.iaload, 1) := by decide +kernel
theorem dX7_proposal_120 : decode cX7_proposal 120 = .ok (.ifCond .ne 12, 3) := by decide +kernel
theorem dX7_proposal_123 : decode cX7_proposal 123 = .ok (.aload_n 0, 1) := by decide +kernel
theorem dX7_proposal_124 : decode cX7_proposal 124 = .ok (.iload_n 1, 1) := by decide +kernel
theorem dX7_proposal_125 : decode cX7_proposal 125 = .ok (.iconst 2, 1) := by decide +kernel
theorem dX7_proposal_126 : decode cX7_proposal 126 = .ok (.invokevirtual 86, 3) := by decide +kernel
theorem dX7_proposal_129 : decode cX7_proposal 129 = .ok (.goto 9, 3) := by decide +kernel
theorem dX7_proposal_132 : decode cX7_proposal 132 = .ok (.aload_n 0, 1) := by decide +kernel
theorem dX7_proposal_133 : decode cX7_proposal 133 = .ok (.getfield 59, 3) := by decide +kernel
theorem dX7_proposal_136 : decode cX7_proposal 136 = .ok (.iload_n 1, 1) := by decide +kernel
theorem dX7_proposal_137 : decode cX7_proposal 137 = .ok (.iaload, 1) := by decide +kernel
theorem dX7_proposal_138 : decode cX7_proposal 138 = .ok (.ireturn, 1) := by decide +kernel
theorem dX7_hour_0 : decode cX7_hour 0 = .ok (.aload_n 0, 1) := by decide +kernel
theorem dX7_hour_1 : decode cX7_hour 1 = .ok (.iconst 0, 1) := by decide +kernel
theorem dX7_hour_2 : decode cX7_hour 2 = .ok (.putfield 62, 3) := by decide +kernel
theorem dX7_hour_5 : decode cX7_hour 5 = .ok (.aload_n 0, 1) := by decide +kernel
theorem dX7_hour_6 : decode cX7_hour 6 = .ok (.getfield 79, 3) := by decide +kernel
theorem dX7_hour_9 : decode cX7_hour 9 = .ok (.ireturn, 1) := by decide +kernel
theorem dX7_member_0 : decode cX7_member 0 = .ok (.aload_n 0, 1) := by decide +kernel
theorem dX7_member_1 : decode cX7_member 1 = .ok (.aload_n 0, 1) := by decide +kernel
theorem dX7_member_2 : decode cX7_member 2 = .ok (.iload_n 1, 1) := by decide +kernel
theorem dX7_member_3 : decode cX7_member 3 = .ok (.invokevirtual 98, 3) := by decide +kernel
theorem dX7_member_6 : decode cX7_member 6 = .ok (.ifCond .ne 7, 3) := by decide +kernel
theorem dX7_member_9 : decode cX7_member 9 = .ok (.iconst 1, 1) := by decide +kernel
theorem dX7_member_10 : decode cX7_member 10 = .ok (.goto 17, 3) := by decide +kernel
theorem dX7_member_13 : decode cX7_member 13 = .ok (.iload_n 2, 1) := by decide +kernel
theorem dX7_member_14 : decode cX7_member 14 = .ok (.iconst 0, 1) := by decide +kernel
theorem dX7_member_15 : decode cX7_member 15 = .ok (.iconst 4, 1) := by decide +kernel
theorem dX7_member_16 : decode cX7_member 16 = .ok (.invokestatic 69, 3) := by decide +kernel
theorem dX7_member_19 : decode cX7_member 19 = .ok (.ifCond .ne 7, 3) := by decide +kernel
theorem dX7_member_22 : decode cX7_member 22 = .ok (.iconst 2, 1) := by decide +kernel
theorem dX7_member_23 : decode cX7_member 23 = .ok (.goto 4, 3) := by decide +kernel
theorem dX7_member_26 : decode cX7_member 26 = .ok (.iconst 0, 1) := by decide +kernel
theorem dX7_member_27 : decode cX7_member 27 = .ok (.invokevirtual 94, 3) := by decide +kernel
theorem dX7_member_30 : decode cX7_member 30 = .ok (.ifCond .eq 5, 3) := by decide +kernel
theorem dX7_member_33 : decode cX7_member 33 = .ok (.iconst 0, 1) := by decide +kernel
theorem dX7_member_34 : decode cX7_member 34 = .ok (.ireturn, 1) := by decide +kernel
theorem dX7_member_35 : decode cX7_member 35 = .ok (.iload_n 2, 1) := by decide +kernel
theorem dX7_member_36 : decode cX7_member 36 = .ok (.tableswitch 80 0 3 #[32, 47, 67, 73], 32) := by decide +kernel
theorem dX7_member_68 : decode cX7_member 68 = .ok (.aload_n 0, 1) := by decide +kernel
theorem dX7_member_69 : decode cX7_member 69 = .ok (.getfield 7, 3) := by decide +kernel
theorem dX7_member_72 : decode cX7_member 72 = .ok (.iload_n 1, 1) := by decide +kernel
theorem dX7_member_73 : decode cX7_member 73 = .ok (.baload, 1) := by decide +kernel
theorem dX7_member_74 : decode cX7_member 74 = .ok (.ifCond .eq 7, 3) := by decide +kernel
theorem dX7_member_77 : decode cX7_member 77 = .ok (.iconst 1, 1) := by decide +kernel
theorem dX7_member_78 : decode cX7_member 78 = .ok (.goto 4, 3) := by decide +kernel
theorem dX7_member_81 : decode cX7_member 81 = .ok (.iconst 0, 1) := by decide +kernel
theorem dX7_member_82 : decode cX7_member 82 = .ok (.ireturn, 1) := by decide +kernel
theorem dX7_member_83 : decode cX7_member 83 = .ok (.aload_n 0, 1) := by decide +kernel
theorem dX7_member_84 : decode cX7_member 84 = .ok (.getfield 7, 3) := by decide +kernel
theorem dX7_member_87 : decode cX7_member 87 = .ok (.iload_n 1, 1) := by decide +kernel
theorem dX7_member_88 : decode cX7_member 88 = .ok (.baload, 1) := by decide +kernel
theorem dX7_member_89 : decode cX7_member 89 = .ok (.ifCond .eq 12, 3) := by decide +kernel
theorem dX7_member_92 : decode cX7_member 92 = .ok (.aload_n 0, 1) := by decide +kernel
theorem dX7_member_93 : decode cX7_member 93 = .ok (.getfield 17, 3) := by decide +kernel
theorem dX7_member_96 : decode cX7_member 96 = .ok (.iload_n 1, 1) := by decide +kernel
theorem dX7_member_97 : decode cX7_member 97 = .ok (.iaload, 1) := by decide +kernel
theorem dX7_member_98 : decode cX7_member 98 = .ok (.goto 4, 3) := by decide +kernel
theorem dX7_member_101 : decode cX7_member 101 = .ok (.iconst 0, 1) := by decide +kernel
theorem dX7_member_102 : decode cX7_member 102 = .ok (.ireturn, 1) := by decide +kernel
theorem dX7_member_103 : decode cX7_member 103 = .ok (.aload_n 0, 1) := by decide +kernel
theorem dX7_member_104 : decode cX7_member 104 = .ok (.iload_n 1, 1) := by decide +kernel
theorem dX7_member_105 : decode cX7_member 105 = .ok (.invokevirtual 112, 3) := by decide +kernel
theorem dX7_member_108 : decode cX7_member 108 = .ok (.ireturn, 1) := by decide +kernel
theorem dX7_member_109 : decode cX7_member 109 = .ok (.aload_n 0, 1) := by decide +kernel
theorem dX7_member_110 : decode cX7_member 110 = .ok (.getfield 23, 3) := by decide +kernel
theorem dX7_member_113 : decode cX7_member 113 = .ok (.iload_n 1, 1) := by decide +kernel
theorem dX7_member_114 : decode cX7_member 114 = .ok (.iaload, 1) := by decide +kernel
theorem dX7_member_115 : decode cX7_member 115 = .ok (.ireturn, 1) := by decide +kernel
theorem dX7_member_116 : decode cX7_member 116 = .ok (.aload_n 0, 1) := by decide +kernel
theorem dX7_member_117 : decode cX7_member 117 = .ok (.getfield 26, 3) := by decide +kernel
theorem dX7_member_120 : decode cX7_member 120 = .ok (.iload_n 1, 1) := by decide +kernel
theorem dX7_member_121 : decode cX7_member 121 = .ok (.iaload, 1) := by decide +kernel
theorem dX7_member_122 : decode cX7_member 122 = .ok (.ireturn, 1) := by decide +kernel
theorem dX7_has_0 : decode cX7_has 0 = .ok (.aload_n 0, 1) := by decide +kernel
theorem dX7_has_1 : decode cX7_has 1 = .ok (.aload_n 0, 1) := by decide +kernel
theorem dX7_has_2 : decode cX7_has 2 = .ok (.iload_n 1, 1) := by decide +kernel
theorem dX7_has_3 : decode cX7_has 3 = .ok (.invokevirtual 98, 3) := by decide +kernel
theorem dX7_has_6 : decode cX7_has 6 = .ok (.ifCond .eq 15, 3) := by decide +kernel
theorem dX7_has_9 : decode cX7_has 9 = .ok (.aload_n 0, 1) := by decide +kernel
theorem dX7_has_10 : decode cX7_has 10 = .ok (.iload_n 2, 1) := by decide +kernel
theorem dX7_has_11 : decode cX7_has 11 = .ok (.invokevirtual 119, 3) := by decide +kernel
theorem dX7_has_14 : decode cX7_has 14 = .ok (.ifCond .eq 7, 3) := by decide +kernel
theorem dX7_has_17 : decode cX7_has 17 = .ok (.iconst 0, 1) := by decide +kernel
theorem dX7_has_18 : decode cX7_has 18 = .ok (.goto 4, 3) := by decide +kernel
theorem dX7_has_21 : decode cX7_has 21 = .ok (.iconst 1, 1) := by decide +kernel
theorem dX7_has_22 : decode cX7_has 22 = .ok (.invokevirtual 94, 3) := by decide +kernel
theorem dX7_has_25 : decode cX7_has 25 = .ok (.ifCond .ne 21, 3) := by decide +kernel
theorem dX7_has_28 : decode cX7_has 28 = .ok (.aload_n 0, 1) := by decide +kernel
theorem dX7_has_29 : decode cX7_has 29 = .ok (.getfield 38, 3) := by decide +kernel
theorem dX7_has_32 : decode cX7_has 32 = .ok (.bipush 20, 2) := by decide +kernel
theorem dX7_has_34 : decode cX7_has 34 = .ok (.iload_n 1, 1) := by decide +kernel
theorem dX7_has_35 : decode cX7_has 35 = .ok (.imul, 1) := by decide +kernel
theorem dX7_has_36 : decode cX7_has 36 = .ok (.iload_n 2, 1) := by decide +kernel
theorem dX7_has_37 : decode cX7_has 37 = .ok (.iadd, 1) := by decide +kernel
theorem dX7_has_38 : decode cX7_has 38 = .ok (.baload, 1) := by decide +kernel
theorem dX7_has_39 : decode cX7_has 39 = .ok (.ifCond .eq 7, 3) := by decide +kernel
theorem dX7_has_42 : decode cX7_has 42 = .ok (.iconst 1, 1) := by decide +kernel
theorem dX7_has_43 : decode cX7_has 43 = .ok (.goto 4, 3) := by decide +kernel
theorem dX7_has_46 : decode cX7_has 46 = .ok (.iconst 0, 1) := by decide +kernel
theorem dX7_has_47 : decode cX7_has 47 = .ok (.ireturn, 1) := by decide +kernel
theorem dX7_owes_0 : decode cX7_owes 0 = .ok (.aload_n 0, 1) := by decide +kernel
theorem dX7_owes_1 : decode cX7_owes 1 = .ok (.aload_n 0, 1) := by decide +kernel
theorem dX7_owes_2 : decode cX7_owes 2 = .ok (.iload_n 1, 1) := by decide +kernel
theorem dX7_owes_3 : decode cX7_owes 3 = .ok (.invokevirtual 98, 3) := by decide +kernel
theorem dX7_owes_6 : decode cX7_owes 6 = .ok (.ifCond .eq 15, 3) := by decide +kernel
theorem dX7_owes_9 : decode cX7_owes 9 = .ok (.aload_n 0, 1) := by decide +kernel
theorem dX7_owes_10 : decode cX7_owes 10 = .ok (.iload_n 2, 1) := by decide +kernel
theorem dX7_owes_11 : decode cX7_owes 11 = .ok (.invokevirtual 98, 3) := by decide +kernel
theorem dX7_owes_14 : decode cX7_owes 14 = .ok (.ifCond .eq 7, 3) := by decide +kernel
theorem dX7_owes_17 : decode cX7_owes 17 = .ok (.iconst 0, 1) := by decide +kernel
theorem dX7_owes_18 : decode cX7_owes 18 = .ok (.goto 4, 3) := by decide +kernel
theorem dX7_owes_21 : decode cX7_owes 21 = .ok (.iconst 1, 1) := by decide +kernel
theorem dX7_owes_22 : decode cX7_owes 22 = .ok (.invokevirtual 94, 3) := by decide +kernel
theorem dX7_owes_25 : decode cX7_owes 25 = .ok (.ifCond .eq 7, 3) := by decide +kernel
theorem dX7_owes_28 : decode cX7_owes 28 = .ok (.iconst 0, 1) := by decide +kernel
theorem dX7_owes_29 : decode cX7_owes 29 = .ok (.goto 14, 3) := by decide +kernel
theorem dX7_owes_32 : decode cX7_owes 32 = .ok (.aload_n 0, 1) := by decide +kernel
theorem dX7_owes_33 : decode cX7_owes 33 = .ok (.getfield 29, 3) := by decide +kernel
theorem dX7_owes_36 : decode cX7_owes 36 = .ok (.bipush 10, 2) := by decide +kernel
theorem dX7_owes_38 : decode cX7_owes 38 = .ok (.iload_n 1, 1) := by decide +kernel
theorem dX7_owes_39 : decode cX7_owes 39 = .ok (.imul, 1) := by decide +kernel
theorem dX7_owes_40 : decode cX7_owes 40 = .ok (.iload_n 2, 1) := by decide +kernel
theorem dX7_owes_41 : decode cX7_owes 41 = .ok (.iadd, 1) := by decide +kernel
theorem dX7_owes_42 : decode cX7_owes 42 = .ok (.iaload, 1) := by decide +kernel
theorem dX7_owes_43 : decode cX7_owes 43 = .ok (.ireturn, 1) := by decide +kernel
theorem dX7_worth_0 : decode cX7_worth 0 = .ok (.aload_n 0, 1) := by decide +kernel
theorem dX7_worth_1 : decode cX7_worth 1 = .ok (.aload_n 0, 1) := by decide +kernel
theorem dX7_worth_2 : decode cX7_worth 2 = .ok (.iload_n 1, 1) := by decide +kernel
theorem dX7_worth_3 : decode cX7_worth 3 = .ok (.invokevirtual 119, 3) := by decide +kernel
theorem dX7_worth_6 : decode cX7_worth 6 = .ok (.ifCond .eq 7, 3) := by decide +kernel
theorem dX7_worth_9 : decode cX7_worth 9 = .ok (.iconst 0, 1) := by decide +kernel
theorem dX7_worth_10 : decode cX7_worth 10 = .ok (.goto 4, 3) := by decide +kernel
theorem dX7_worth_13 : decode cX7_worth 13 = .ok (.iconst 1, 1) := by decide +kernel
theorem dX7_worth_14 : decode cX7_worth 14 = .ok (.invokevirtual 94, 3) := by decide +kernel
theorem dX7_worth_17 : decode cX7_worth 17 = .ok (.ifCond .eq 7, 3) := by decide +kernel
theorem dX7_worth_20 : decode cX7_worth 20 = .ok (.iconst 0, 1) := by decide +kernel
theorem dX7_worth_21 : decode cX7_worth 21 = .ok (.goto 9, 3) := by decide +kernel
theorem dX7_worth_24 : decode cX7_worth 24 = .ok (.aload_n 0, 1) := by decide +kernel
theorem dX7_worth_25 : decode cX7_worth 25 = .ok (.getfield 35, 3) := by decide +kernel
theorem dX7_worth_28 : decode cX7_worth 28 = .ok (.iload_n 1, 1) := by decide +kernel
theorem dX7_worth_29 : decode cX7_worth 29 = .ok (.iaload, 1) := by decide +kernel
theorem dX7_worth_30 : decode cX7_worth 30 = .ok (.ireturn, 1) := by decide +kernel
theorem dX7_accountAnew_0 : decode cX7_accountAnew 0 = .ok (.aload_n 0, 1) := by decide +kernel
theorem dX7_accountAnew_1 : decode cX7_accountAnew 1 = .ok (.aload_n 0, 1) := by decide +kernel
theorem dX7_accountAnew_2 : decode cX7_accountAnew 2 = .ok (.iload_n 1, 1) := by decide +kernel
theorem dX7_accountAnew_3 : decode cX7_accountAnew 3 = .ok (.invokevirtual 98, 3) := by decide +kernel
theorem dX7_accountAnew_6 : decode cX7_accountAnew 6 = .ok (.ifCond .eq 7, 3) := by decide +kernel
theorem dX7_accountAnew_9 : decode cX7_accountAnew 9 = .ok (.iconst 0, 1) := by decide +kernel
theorem dX7_accountAnew_10 : decode cX7_accountAnew 10 = .ok (.goto 4, 3) := by decide +kernel
theorem dX7_accountAnew_13 : decode cX7_accountAnew 13 = .ok (.iconst 1, 1) := by decide +kernel
theorem dX7_accountAnew_14 : decode cX7_accountAnew 14 = .ok (.invokevirtual 94, 3) := by decide +kernel
theorem dX7_accountAnew_17 : decode cX7_accountAnew 17 = .ok (.ifCond .eq 7, 3) := by decide +kernel
theorem dX7_accountAnew_20 : decode cX7_accountAnew 20 = .ok (.iconst 0, 1) := by decide +kernel
theorem dX7_accountAnew_21 : decode cX7_accountAnew 21 = .ok (.goto 9, 3) := by decide +kernel
theorem dX7_accountAnew_24 : decode cX7_accountAnew 24 = .ok (.aload_n 0, 1) := by decide +kernel
theorem dX7_accountAnew_25 : decode cX7_accountAnew 25 = .ok (.getfield 23, 3) := by decide +kernel
theorem dX7_accountAnew_28 : decode cX7_accountAnew 28 = .ok (.iload_n 1, 1) := by decide +kernel
theorem dX7_accountAnew_29 : decode cX7_accountAnew 29 = .ok (.iaload, 1) := by decide +kernel
theorem dX7_accountAnew_30 : decode cX7_accountAnew 30 = .ok (.ireturn, 1) := by decide +kernel
theorem dX7_owesAnew_0 : decode cX7_owesAnew 0 = .ok (.aload_n 0, 1) := by decide +kernel
theorem dX7_owesAnew_1 : decode cX7_owesAnew 1 = .ok (.iload_n 1, 1) := by decide +kernel
theorem dX7_owesAnew_2 : decode cX7_owesAnew 2 = .ok (.iload_n 2, 1) := by decide +kernel
theorem dX7_owesAnew_3 : decode cX7_owesAnew 3 = .ok (.invokevirtual 144, 3) := by decide +kernel
theorem dX7_owesAnew_6 : decode cX7_owesAnew 6 = .ok (.ireturn, 1) := by decide +kernel
theorem dX7_figure_0 : decode cX7_figure 0 = .ok (.iload_n 0, 1) := by decide +kernel
theorem dX7_figure_1 : decode cX7_figure 1 = .ok (.bipush 10, 2) := by decide +kernel
theorem dX7_figure_3 : decode cX7_figure 3 = .ok (.if_icmp .ge 18, 3) := by decide +kernel
theorem dX7_figure_6 : decode cX7_figure 6 = .ok (.iload_n 1, 1) := by decide +kernel
theorem dX7_figure_7 : decode cX7_figure 7 = .ok (.ifCond .ne 10, 3) := by decide +kernel
theorem dX7_figure_10 : decode cX7_figure 10 = .ok (.bipush 48, 2) := by decide +kernel
theorem dX7_figure_12 : decode cX7_figure 12 = .ok (.iload_n 0, 1) := by decide +kernel
theorem dX7_figure_13 : decode cX7_figure 13 = .ok (.iadd, 1) := by decide +kernel
theorem dX7_figure_14 : decode cX7_figure 14 = .ok (.goto 37, 3) := by decide +kernel
theorem dX7_figure_17 : decode cX7_figure 17 = .ok (.iconst 0, 1) := by decide +kernel
theorem dX7_figure_18 : decode cX7_figure 18 = .ok (.goto 33, 3) := by decide +kernel
theorem dX7_figure_21 : decode cX7_figure 21 = .ok (.iload_n 1, 1) := by decide +kernel
theorem dX7_figure_22 : decode cX7_figure 22 = .ok (.ifCond .ne 13, 3) := by decide +kernel
theorem dX7_figure_25 : decode cX7_figure 25 = .ok (.bipush 48, 2) := by decide +kernel
theorem dX7_figure_27 : decode cX7_figure 27 = .ok (.iload_n 0, 1) := by decide +kernel
theorem dX7_figure_28 : decode cX7_figure 28 = .ok (.bipush 10, 2) := by decide +kernel
theorem dX7_figure_30 : decode cX7_figure 30 = .ok (.idiv, 1) := by decide +kernel
theorem dX7_figure_31 : decode cX7_figure 31 = .ok (.iadd, 1) := by decide +kernel
theorem dX7_figure_32 : decode cX7_figure 32 = .ok (.goto 19, 3) := by decide +kernel
theorem dX7_figure_35 : decode cX7_figure 35 = .ok (.iload_n 1, 1) := by decide +kernel
theorem dX7_figure_36 : decode cX7_figure 36 = .ok (.iconst 1, 1) := by decide +kernel
theorem dX7_figure_37 : decode cX7_figure 37 = .ok (.if_icmp .ne 13, 3) := by decide +kernel
theorem dX7_figure_40 : decode cX7_figure 40 = .ok (.bipush 48, 2) := by decide +kernel
theorem dX7_figure_42 : decode cX7_figure 42 = .ok (.iload_n 0, 1) := by decide +kernel
theorem dX7_figure_43 : decode cX7_figure 43 = .ok (.bipush 10, 2) := by decide +kernel
theorem dX7_figure_45 : decode cX7_figure 45 = .ok (.irem, 1) := by decide +kernel
theorem dX7_figure_46 : decode cX7_figure 46 = .ok (.iadd, 1) := by decide +kernel
theorem dX7_figure_47 : decode cX7_figure 47 = .ok (.goto 4, 3) := by decide +kernel
theorem dX7_figure_50 : decode cX7_figure 50 = .ok (.iconst 0, 1) := by decide +kernel
theorem dX7_figure_51 : decode cX7_figure 51 = .ok (.ireturn, 1) := by decide +kernel
theorem dX7_figures_0 : decode cX7_figures 0 = .ok (.iload_n 0, 1) := by decide +kernel
theorem dX7_figures_1 : decode cX7_figures 1 = .ok (.bipush 10, 2) := by decide +kernel
theorem dX7_figures_3 : decode cX7_figures 3 = .ok (.if_icmp .ge 7, 3) := by decide +kernel
theorem dX7_figures_6 : decode cX7_figures 6 = .ok (.iconst 1, 1) := by decide +kernel
theorem dX7_figures_7 : decode cX7_figures 7 = .ok (.goto 4, 3) := by decide +kernel
theorem dX7_figures_10 : decode cX7_figures 10 = .ok (.iconst 2, 1) := by decide +kernel
theorem dX7_figures_11 : decode cX7_figures 11 = .ok (.ireturn, 1) := by decide +kernel
theorem dX7_told_0 : decode cX7_told 0 = .ok (.aload_n 0, 1) := by decide +kernel
theorem dX7_told_1 : decode cX7_told 1 = .ok (.iload_n 1, 1) := by decide +kernel
theorem dX7_told_2 : decode cX7_told 2 = .ok (.ifCond .ge 7, 3) := by decide +kernel
theorem dX7_told_5 : decode cX7_told 5 = .ok (.iconst 1, 1) := by decide +kernel
theorem dX7_told_6 : decode cX7_told 6 = .ok (.goto 4, 3) := by decide +kernel
theorem dX7_told_9 : decode cX7_told 9 = .ok (.iconst 0, 1) := by decide +kernel
theorem dX7_told_10 : decode cX7_told 10 = .ok (.invokevirtual 94, 3) := by decide +kernel
theorem dX7_told_13 : decode cX7_told 13 = .ok (.ifCond .eq 5, 3) := by decide +kernel
theorem dX7_told_16 : decode cX7_told 16 = .ok (.iconst 0, 1) := by decide +kernel
theorem dX7_told_17 : decode cX7_told 17 = .ok (.ireturn, 1) := by decide +kernel
theorem dX7_told_18 : decode cX7_told 18 = .ok (.iload_n 1, 1) := by decide +kernel
theorem dX7_told_19 : decode cX7_told 19 = .ok (.istore_n 2, 1) := by decide +kernel
theorem dX7_told_20 : decode cX7_told 20 = .ok (.iconst 0, 1) := by decide +kernel
theorem dX7_told_21 : decode cX7_told 21 = .ok (.istore_n 3, 1) := by decide +kernel
theorem dX7_told_22 : decode cX7_told 22 = .ok (.iload_n 3, 1) := by decide +kernel
theorem dX7_told_23 : decode cX7_told 23 = .ok (.aload_n 0, 1) := by decide +kernel
theorem dX7_told_24 : decode cX7_told 24 = .ok (.getfield 66, 3) := by decide +kernel
theorem dX7_told_27 : decode cX7_told 27 = .ok (.if_icmp .ge 136, 3) := by decide +kernel
theorem dX7_told_30 : decode cX7_told 30 = .ok (.aload_n 0, 1) := by decide +kernel
theorem dX7_told_31 : decode cX7_told 31 = .ok (.getfield 7, 3) := by decide +kernel
theorem dX7_told_34 : decode cX7_told 34 = .ok (.iload_n 3, 1) := by decide +kernel
theorem dX7_told_35 : decode cX7_told 35 = .ok (.baload, 1) := by decide +kernel
theorem dX7_told_36 : decode cX7_told 36 = .ok (.ifCond .eq 121, 3) := by decide +kernel
theorem dX7_told_39 : decode cX7_told 39 = .ok (.iload_n 2, 1) := by decide +kernel
theorem dX7_told_40 : decode cX7_told 40 = .ok (.iload_n 3, 1) := by decide +kernel
theorem dX7_told_41 : decode cX7_told 41 = .ok (.invokestatic 147, 3) := by decide +kernel
theorem dX7_told_44 : decode cX7_told 44 = .ok (.if_icmp .ge 10, 3) := by decide +kernel
theorem dX7_told_47 : decode cX7_told 47 = .ok (.iload_n 3, 1) := by decide +kernel
theorem dX7_told_48 : decode cX7_told 48 = .ok (.iload_n 2, 1) := by decide +kernel
theorem dX7_told_49 : decode cX7_told 49 = .ok (.invokestatic 150, 3) := by decide +kernel
theorem dX7_told_52 : decode cX7_told 52 = .ok (.i2c, 1) := by decide +kernel
theorem dX7_told_53 : decode cX7_told 53 = .ok (.ireturn, 1) := by decide +kernel
theorem dX7_told_54 : decode cX7_told 54 = .ok (.iload_n 2, 1) := by decide +kernel
theorem dX7_told_55 : decode cX7_told 55 = .ok (.iload_n 3, 1) := by decide +kernel
theorem dX7_told_56 : decode cX7_told 56 = .ok (.invokestatic 147, 3) := by decide +kernel
theorem dX7_told_59 : decode cX7_told 59 = .ok (.isub, 1) := by decide +kernel
theorem dX7_told_60 : decode cX7_told 60 = .ok (.istore_n 2, 1) := by decide +kernel
theorem dX7_told_61 : decode cX7_told 61 = .ok (.iconst 0, 1) := by decide +kernel
theorem dX7_told_62 : decode cX7_told 62 = .ok (.istore 4, 2) := by decide +kernel
theorem dX7_told_64 : decode cX7_told 64 = .ok (.iload 4, 2) := by decide +kernel
theorem dX7_told_66 : decode cX7_told 66 = .ok (.aload_n 0, 1) := by decide +kernel
theorem dX7_told_67 : decode cX7_told 67 = .ok (.getfield 73, 3) := by decide +kernel
theorem dX7_told_70 : decode cX7_told 70 = .ok (.if_icmp .ge 77, 3) := by decide +kernel
theorem dX7_told_73 : decode cX7_told 73 = .ok (.aload_n 0, 1) := by decide +kernel
theorem dX7_told_74 : decode cX7_told 74 = .ok (.getfield 38, 3) := by decide +kernel
theorem dX7_told_77 : decode cX7_told 77 = .ok (.bipush 20, 2) := by decide +kernel
theorem dX7_told_79 : decode cX7_told 79 = .ok (.iload_n 3, 1) := by decide +kernel
theorem dX7_told_80 : decode cX7_told 80 = .ok (.imul, 1) := by decide +kernel
theorem dX7_told_81 : decode cX7_told 81 = .ok (.iload 4, 2) := by decide +kernel
theorem dX7_told_83 : decode cX7_told 83 = .ok (.iadd, 1) := by decide +kernel
theorem dX7_told_84 : decode cX7_told 84 = .ok (.baload, 1) := by decide +kernel
theorem dX7_told_85 : decode cX7_told 85 = .ok (.ifCond .eq 56, 3) := by decide +kernel
theorem dX7_told_88 : decode cX7_told 88 = .ok (.iload_n 2, 1) := by decide +kernel
theorem dX7_told_89 : decode cX7_told 89 = .ok (.aload_n 0, 1) := by decide +kernel
theorem dX7_told_90 : decode cX7_told 90 = .ok (.getfield 32, 3) := by decide +kernel
theorem dX7_told_93 : decode cX7_told 93 = .ok (.iload 4, 2) := by decide +kernel
theorem dX7_told_95 : decode cX7_told 95 = .ok (.iaload, 1) := by decide +kernel
theorem dX7_told_96 : decode cX7_told 96 = .ok (.invokestatic 147, 3) := by decide +kernel
theorem dX7_told_99 : decode cX7_told 99 = .ok (.if_icmp .gt 27, 3) := by decide +kernel
theorem dX7_told_102 : decode cX7_told 102 = .ok (.iload_n 2, 1) := by decide +kernel
theorem dX7_told_103 : decode cX7_told 103 = .ok (.ifCond .ne 8, 3) := by decide +kernel
theorem dX7_told_106 : decode cX7_told 106 = .ok (.bipush 44, 2) := by decide +kernel
theorem dX7_told_108 : decode cX7_told 108 = .ok (.goto 16, 3) := by decide +kernel
theorem dX7_told_111 : decode cX7_told 111 = .ok (.aload_n 0, 1) := by decide +kernel
theorem dX7_told_112 : decode cX7_told 112 = .ok (.getfield 32, 3) := by decide +kernel
theorem dX7_told_115 : decode cX7_told 115 = .ok (.iload 4, 2) := by decide +kernel
theorem dX7_told_117 : decode cX7_told 117 = .ok (.iaload, 1) := by decide +kernel
theorem dX7_told_118 : decode cX7_told 118 = .ok (.iload_n 2, 1) := by decide +kernel
theorem dX7_told_119 : decode cX7_told 119 = .ok (.iconst 1, 1) := by decide +kernel
theorem dX7_told_120 : decode cX7_told 120 = .ok (.isub, 1) := by decide +kernel
theorem dX7_told_121 : decode cX7_told 121 = .ok (.invokestatic 150, 3) := by decide +kernel
theorem dX7_told_124 : decode cX7_told 124 = .ok (.i2c, 1) := by decide +kernel
theorem dX7_told_125 : decode cX7_told 125 = .ok (.ireturn, 1) := by decide +kernel
theorem dX7_told_126 : decode cX7_told 126 = .ok (.iload_n 2, 1) := by decide +kernel
theorem dX7_told_127 : decode cX7_told 127 = .ok (.iconst 1, 1) := by decide +kernel
theorem dX7_told_128 : decode cX7_told 128 = .ok (.aload_n 0, 1) := by decide +kernel
theorem dX7_told_129 : decode cX7_told 129 = .ok (.getfield 32, 3) := by decide +kernel
theorem dX7_told_132 : decode cX7_told 132 = .ok (.iload 4, 2) := by decide +kernel
theorem dX7_told_134 : decode cX7_told 134 = .ok (.iaload, 1) := by decide +kernel
theorem dX7_told_135 : decode cX7_told 135 = .ok (.invokestatic 147, 3) := by decide +kernel
theorem dX7_told_138 : decode cX7_told 138 = .ok (.iadd, 1) := by decide +kernel
theorem dX7_told_139 : decode cX7_told 139 = .ok (.isub, 1) := by decide +kernel
theorem dX7_told_140 : decode cX7_told 140 = .ok (.istore_n 2, 1) := by decide +kernel
theorem dX7_told_141 : decode cX7_told 141 = .ok (.iinc 4 1, 3) := by decide +kernel
theorem dX7_told_144 : decode cX7_told 144 = .ok (.goto (-80), 3) := by decide +kernel
theorem dX7_told_147 : decode cX7_told 147 = .ok (.iload_n 2, 1) := by decide +kernel
theorem dX7_told_148 : decode cX7_told 148 = .ok (.ifCond .ne 6, 3) := by decide +kernel
theorem dX7_told_151 : decode cX7_told 151 = .ok (.bipush 59, 2) := by decide +kernel
theorem dX7_told_153 : decode cX7_told 153 = .ok (.ireturn, 1) := by decide +kernel
theorem dX7_told_154 : decode cX7_told 154 = .ok (.iinc 2 (-1), 3) := by decide +kernel
theorem dX7_told_157 : decode cX7_told 157 = .ok (.iinc 3 1, 3) := by decide +kernel
theorem dX7_told_160 : decode cX7_told 160 = .ok (.goto (-138), 3) := by decide +kernel
theorem dX7_told_163 : decode cX7_told 163 = .ok (.iconst 0, 1) := by decide +kernel
theorem dX7_told_164 : decode cX7_told 164 = .ok (.ireturn, 1) := by decide +kernel
end
section
theorem dL_law_0 : decode cL_law 0 = .ok (.new 8, 3) := by decide +kernel
theorem dL_law_3 : decode cL_law 3 = .ok (.dup, 1) := by decide +kernel
theorem dL_law_4 : decode cL_law 4 = .ok (.invokespecial 69, 3) := by decide +kernel
theorem dL_law_7 : decode cL_law 7 = .ok (.astore_n 1, 1) := by decide +kernel
theorem dL_law_8 : decode cL_law 8 = .ok (.new 70, 3) := by decide +kernel
theorem dL_law_11 : decode cL_law 11 = .ok (.dup, 1) := by decide +kernel
theorem dL_law_12 : decode cL_law 12 = .ok (.invokespecial 72, 3) := by decide +kernel
theorem dL_law_15 : decode cL_law 15 = .ok (.astore_n 2, 1) := by decide +kernel
theorem dL_law_16 : decode cL_law 16 = .ok (.iconst 1, 1) := by decide +kernel
theorem dL_law_17 : decode cL_law 17 = .ok (.newarray .long, 2) := by decide +kernel
theorem dL_law_19 : decode cL_law 19 = .ok (.astore_n 3, 1) := by decide +kernel
theorem dL_law_20 : decode cL_law 20 = .ok (.iconst 0, 1) := by decide +kernel
theorem dL_law_21 : decode cL_law 21 = .ok (.istore 4, 2) := by decide +kernel
theorem dL_law_23 : decode cL_law 23 = .ok (.iload 4, 2) := by decide +kernel
theorem dL_law_25 : decode cL_law 25 = .ok (.aload_n 0, 1) := by decide +kernel
theorem dL_law_26 : decode cL_law 26 = .ok (.arraylength, 1) := by decide +kernel
theorem dL_law_27 : decode cL_law 27 = .ok (.iconst 4, 1) := by decide +kernel
theorem dL_law_28 : decode cL_law 28 = .ok (.isub, 1) := by decide +kernel
theorem dL_law_29 : decode cL_law 29 = .ok (.if_icmp .gt 1161, 3) := by decide +kernel
theorem dL_law_32 : decode cL_law 32 = .ok (.aload_n 0, 1) := by decide +kernel
theorem dL_law_33 : decode cL_law 33 = .ok (.iload 4, 2) := by decide +kernel
theorem dL_law_35 : decode cL_law 35 = .ok (.iaload, 1) := by decide +kernel
theorem dL_law_36 : decode cL_law 36 = .ok (.bipush 31, 2) := by decide +kernel
theorem dL_law_38 : decode cL_law 38 = .ok (.iand, 1) := by decide +kernel
theorem dL_law_39 : decode cL_law 39 = .ok (.tableswitch 1145 0 16 #[81, 149, 205, 261, 329, 385, 465, 561, 617, 685, 698, 766, 841, 909, 965, 1021, 1089], 81) := by decide +kernel
theorem dL_law_120 : decode cL_law 120 = .ok (.aload_n 1, 1) := by decide +kernel
theorem dL_law_121 : decode cL_law 121 = .ok (.aload_n 0, 1) := by decide +kernel
theorem dL_law_122 : decode cL_law 122 = .ok (.iload 4, 2) := by decide +kernel
theorem dL_law_124 : decode cL_law 124 = .ok (.iconst 1, 1) := by decide +kernel
theorem dL_law_125 : decode cL_law 125 = .ok (.iadd, 1) := by decide +kernel
theorem dL_law_126 : decode cL_law 126 = .ok (.iaload, 1) := by decide +kernel
theorem dL_law_127 : decode cL_law 127 = .ok (.aload_n 0, 1) := by decide +kernel
theorem dL_law_128 : decode cL_law 128 = .ok (.iload 4, 2) := by decide +kernel
theorem dL_law_130 : decode cL_law 130 = .ok (.iconst 2, 1) := by decide +kernel
theorem dL_law_131 : decode cL_law 131 = .ok (.iadd, 1) := by decide +kernel
theorem dL_law_132 : decode cL_law 132 = .ok (.iaload, 1) := by decide +kernel
theorem dL_law_133 : decode cL_law 133 = .ok (.aload_n 3, 1) := by decide +kernel
theorem dL_law_134 : decode cL_law 134 = .ok (.invokestatic 73, 3) := by decide +kernel
theorem dL_law_137 : decode cL_law 137 = .ok (.istore 5, 2) := by decide +kernel
theorem dL_law_139 : decode cL_law 139 = .ok (.aload_n 2, 1) := by decide +kernel
theorem dL_law_140 : decode cL_law 140 = .ok (.aload_n 0, 1) := by decide +kernel
theorem dL_law_141 : decode cL_law 141 = .ok (.iload 4, 2) := by decide +kernel
theorem dL_law_143 : decode cL_law 143 = .ok (.iconst 1, 1) := by decide +kernel
theorem dL_law_144 : decode cL_law 144 = .ok (.iadd, 1) := by decide +kernel
theorem dL_law_145 : decode cL_law 145 = .ok (.iaload, 1) := by decide +kernel
theorem dL_law_146 : decode cL_law 146 = .ok (.aload_n 0, 1) := by decide +kernel
theorem dL_law_147 : decode cL_law 147 = .ok (.iload 4, 2) := by decide +kernel
theorem dL_law_149 : decode cL_law 149 = .ok (.iconst 2, 1) := by decide +kernel
theorem dL_law_150 : decode cL_law 150 = .ok (.iadd, 1) := by decide +kernel
theorem dL_law_151 : decode cL_law 151 = .ok (.iaload, 1) := by decide +kernel
theorem dL_law_152 : decode cL_law 152 = .ok (.invokevirtual 78, 3) := by decide +kernel
theorem dL_law_155 : decode cL_law 155 = .ok (.istore 6, 2) := by decide +kernel
theorem dL_law_157 : decode cL_law 157 = .ok (.aload_n 2, 1) := by decide +kernel
theorem dL_law_158 : decode cL_law 158 = .ok (.invokevirtual 79, 3) := by decide +kernel
theorem dL_law_161 : decode cL_law 161 = .ok (.iload 5, 2) := by decide +kernel
theorem dL_law_163 : decode cL_law 163 = .ok (.if_icmp .eq 5, 3) := by decide +kernel
theorem dL_law_166 : decode cL_law 166 = .ok (.iconst 0, 1) := by decide +kernel
theorem dL_law_167 : decode cL_law 167 = .ok (.ireturn, 1) := by decide +kernel
theorem dL_law_168 : decode cL_law 168 = .ok (.iload 5, 2) := by decide +kernel
theorem dL_law_170 : decode cL_law 170 = .ok (.ifCond .ne 15, 3) := by decide +kernel
theorem dL_law_173 : decode cL_law 173 = .ok (.aload_n 3, 1) := by decide +kernel
theorem dL_law_174 : decode cL_law 174 = .ok (.iconst 0, 1) := by decide +kernel
theorem dL_law_175 : decode cL_law 175 = .ok (.laload, 1) := by decide +kernel
theorem dL_law_176 : decode cL_law 176 = .ok (.iload 6, 2) := by decide +kernel
theorem dL_law_178 : decode cL_law 178 = .ok (.i2l, 1) := by decide +kernel
theorem dL_law_179 : decode cL_law 179 = .ok (.lcmp, 1) := by decide +kernel
theorem dL_law_180 : decode cL_law 180 = .ok (.ifCond .eq 5, 3) := by decide +kernel
theorem dL_law_183 : decode cL_law 183 = .ok (.iconst 0, 1) := by decide +kernel
theorem dL_law_184 : decode cL_law 184 = .ok (.ireturn, 1) := by decide +kernel
theorem dL_law_185 : decode cL_law 185 = .ok (.goto 999, 3) := by decide +kernel
theorem dL_law_188 : decode cL_law 188 = .ok (.aload_n 1, 1) := by decide +kernel
theorem dL_law_189 : decode cL_law 189 = .ok (.aload_n 0, 1) := by decide +kernel
theorem dL_law_190 : decode cL_law 190 = .ok (.iload 4, 2) := by decide +kernel
theorem dL_law_192 : decode cL_law 192 = .ok (.iconst 1, 1) := by decide +kernel
theorem dL_law_193 : decode cL_law 193 = .ok (.iadd, 1) := by decide +kernel
theorem dL_law_194 : decode cL_law 194 = .ok (.iaload, 1) := by decide +kernel
theorem dL_law_195 : decode cL_law 195 = .ok (.aload_n 3, 1) := by decide +kernel
theorem dL_law_196 : decode cL_law 196 = .ok (.invokestatic 83, 3) := by decide +kernel
theorem dL_law_199 : decode cL_law 199 = .ok (.istore 5, 2) := by decide +kernel
theorem dL_law_201 : decode cL_law 201 = .ok (.aload_n 2, 1) := by decide +kernel
theorem dL_law_202 : decode cL_law 202 = .ok (.aload_n 0, 1) := by decide +kernel
theorem dL_law_203 : decode cL_law 203 = .ok (.iload 4, 2) := by decide +kernel
theorem dL_law_205 : decode cL_law 205 = .ok (.iconst 1, 1) := by decide +kernel
theorem dL_law_206 : decode cL_law 206 = .ok (.iadd, 1) := by decide +kernel
theorem dL_law_207 : decode cL_law 207 = .ok (.iaload, 1) := by decide +kernel
theorem dL_law_208 : decode cL_law 208 = .ok (.invokevirtual 86, 3) := by decide +kernel
theorem dL_law_211 : decode cL_law 211 = .ok (.istore 6, 2) := by decide +kernel
theorem dL_law_213 : decode cL_law 213 = .ok (.aload_n 2, 1) := by decide +kernel
theorem dL_law_214 : decode cL_law 214 = .ok (.invokevirtual 79, 3) := by decide +kernel
theorem dL_law_217 : decode cL_law 217 = .ok (.iload 5, 2) := by decide +kernel
theorem dL_law_219 : decode cL_law 219 = .ok (.if_icmp .eq 5, 3) := by decide +kernel
theorem dL_law_222 : decode cL_law 222 = .ok (.iconst 0, 1) := by decide +kernel
theorem dL_law_223 : decode cL_law 223 = .ok (.ireturn, 1) := by decide +kernel
theorem dL_law_224 : decode cL_law 224 = .ok (.iload 5, 2) := by decide +kernel
theorem dL_law_226 : decode cL_law 226 = .ok (.ifCond .ne 15, 3) := by decide +kernel
theorem dL_law_229 : decode cL_law 229 = .ok (.aload_n 3, 1) := by decide +kernel
theorem dL_law_230 : decode cL_law 230 = .ok (.iconst 0, 1) := by decide +kernel
theorem dL_law_231 : decode cL_law 231 = .ok (.laload, 1) := by decide +kernel
theorem dL_law_232 : decode cL_law 232 = .ok (.iload 6, 2) := by decide +kernel
theorem dL_law_234 : decode cL_law 234 = .ok (.i2l, 1) := by decide +kernel
theorem dL_law_235 : decode cL_law 235 = .ok (.lcmp, 1) := by decide +kernel
theorem dL_law_236 : decode cL_law 236 = .ok (.ifCond .eq 5, 3) := by decide +kernel
theorem dL_law_239 : decode cL_law 239 = .ok (.iconst 0, 1) := by decide +kernel
theorem dL_law_240 : decode cL_law 240 = .ok (.ireturn, 1) := by decide +kernel
theorem dL_law_241 : decode cL_law 241 = .ok (.goto 943, 3) := by decide +kernel
theorem dL_law_244 : decode cL_law 244 = .ok (.aload_n 1, 1) := by decide +kernel
theorem dL_law_245 : decode cL_law 245 = .ok (.aload_n 0, 1) := by decide +kernel
theorem dL_law_246 : decode cL_law 246 = .ok (.iload 4, 2) := by decide +kernel
theorem dL_law_248 : decode cL_law 248 = .ok (.iconst 1, 1) := by decide +kernel
theorem dL_law_249 : decode cL_law 249 = .ok (.iadd, 1) := by decide +kernel
theorem dL_law_250 : decode cL_law 250 = .ok (.iaload, 1) := by decide +kernel
theorem dL_law_251 : decode cL_law 251 = .ok (.aload_n 3, 1) := by decide +kernel
theorem dL_law_252 : decode cL_law 252 = .ok (.invokestatic 87, 3) := by decide +kernel
theorem dL_law_255 : decode cL_law 255 = .ok (.istore 5, 2) := by decide +kernel
theorem dL_law_257 : decode cL_law 257 = .ok (.aload_n 2, 1) := by decide +kernel
theorem dL_law_258 : decode cL_law 258 = .ok (.aload_n 0, 1) := by decide +kernel
theorem dL_law_259 : decode cL_law 259 = .ok (.iload 4, 2) := by decide +kernel
theorem dL_law_261 : decode cL_law 261 = .ok (.iconst 1, 1) := by decide +kernel
theorem dL_law_262 : decode cL_law 262 = .ok (.iadd, 1) := by decide +kernel
theorem dL_law_263 : decode cL_law 263 = .ok (.iaload, 1) := by decide +kernel
theorem dL_law_264 : decode cL_law 264 = .ok (.invokevirtual 89, 3) := by decide +kernel
theorem dL_law_267 : decode cL_law 267 = .ok (.istore 6, 2) := by decide +kernel
theorem dL_law_269 : decode cL_law 269 = .ok (.aload_n 2, 1) := by decide +kernel
theorem dL_law_270 : decode cL_law 270 = .ok (.invokevirtual 79, 3) := by decide +kernel
theorem dL_law_273 : decode cL_law 273 = .ok (.iload 5, 2) := by decide +kernel
theorem dL_law_275 : decode cL_law 275 = .ok (.if_icmp .eq 5, 3) := by decide +kernel
theorem dL_law_278 : decode cL_law 278 = .ok (.iconst 0, 1) := by decide +kernel
theorem dL_law_279 : decode cL_law 279 = .ok (.ireturn, 1) := by decide +kernel
theorem dL_law_280 : decode cL_law 280 = .ok (.iload 5, 2) := by decide +kernel
theorem dL_law_282 : decode cL_law 282 = .ok (.ifCond .ne 15, 3) := by decide +kernel
theorem dL_law_285 : decode cL_law 285 = .ok (.aload_n 3, 1) := by decide +kernel
theorem dL_law_286 : decode cL_law 286 = .ok (.iconst 0, 1) := by decide +kernel
theorem dL_law_287 : decode cL_law 287 = .ok (.laload, 1) := by decide +kernel
theorem dL_law_288 : decode cL_law 288 = .ok (.iload 6, 2) := by decide +kernel
theorem dL_law_290 : decode cL_law 290 = .ok (.i2l, 1) := by decide +kernel
theorem dL_law_291 : decode cL_law 291 = .ok (.lcmp, 1) := by decide +kernel
theorem dL_law_292 : decode cL_law 292 = .ok (.ifCond .eq 5, 3) := by decide +kernel
theorem dL_law_295 : decode cL_law 295 = .ok (.iconst 0, 1) := by decide +kernel
theorem dL_law_296 : decode cL_law 296 = .ok (.ireturn, 1) := by decide +kernel
theorem dL_law_297 : decode cL_law 297 = .ok (.goto 887, 3) := by decide +kernel
theorem dL_law_300 : decode cL_law 300 = .ok (.aload_n 1, 1) := by decide +kernel
theorem dL_law_301 : decode cL_law 301 = .ok (.aload_n 0, 1) := by decide +kernel
theorem dL_law_302 : decode cL_law 302 = .ok (.iload 4, 2) := by decide +kernel
theorem dL_law_304 : decode cL_law 304 = .ok (.iconst 1, 1) := by decide +kernel
theorem dL_law_305 : decode cL_law 305 = .ok (.iadd, 1) := by decide +kernel
theorem dL_law_306 : decode cL_law 306 = .ok (.iaload, 1) := by decide +kernel
theorem dL_law_307 : decode cL_law 307 = .ok (.aload_n 0, 1) := by decide +kernel
theorem dL_law_308 : decode cL_law 308 = .ok (.iload 4, 2) := by decide +kernel
theorem dL_law_310 : decode cL_law 310 = .ok (.iconst 2, 1) := by decide +kernel
theorem dL_law_311 : decode cL_law 311 = .ok (.iadd, 1) := by decide +kernel
theorem dL_law_312 : decode cL_law 312 = .ok (.iaload, 1) := by decide +kernel
theorem dL_law_313 : decode cL_law 313 = .ok (.aload_n 3, 1) := by decide +kernel
theorem dL_law_314 : decode cL_law 314 = .ok (.invokestatic 90, 3) := by decide +kernel
theorem dL_law_317 : decode cL_law 317 = .ok (.istore 5, 2) := by decide +kernel
theorem dL_law_319 : decode cL_law 319 = .ok (.aload_n 2, 1) := by decide +kernel
theorem dL_law_320 : decode cL_law 320 = .ok (.aload_n 0, 1) := by decide +kernel
theorem dL_law_321 : decode cL_law 321 = .ok (.iload 4, 2) := by decide +kernel
theorem dL_law_323 : decode cL_law 323 = .ok (.iconst 1, 1) := by decide +kernel
theorem dL_law_324 : decode cL_law 324 = .ok (.iadd, 1) := by decide +kernel
theorem dL_law_325 : decode cL_law 325 = .ok (.iaload, 1) := by decide +kernel
theorem dL_law_326 : decode cL_law 326 = .ok (.aload_n 0, 1) := by decide +kernel
theorem dL_law_327 : decode cL_law 327 = .ok (.iload 4, 2) := by decide +kernel
theorem dL_law_329 : decode cL_law 329 = .ok (.iconst 2, 1) := by decide +kernel
theorem dL_law_330 : decode cL_law 330 = .ok (.iadd, 1) := by decide +kernel
theorem dL_law_331 : decode cL_law 331 = .ok (.iaload, 1) := by decide +kernel
theorem dL_law_332 : decode cL_law 332 = .ok (.invokevirtual 92, 3) := by decide +kernel
theorem dL_law_335 : decode cL_law 335 = .ok (.istore 6, 2) := by decide +kernel
theorem dL_law_337 : decode cL_law 337 = .ok (.aload_n 2, 1) := by decide +kernel
theorem dL_law_338 : decode cL_law 338 = .ok (.invokevirtual 79, 3) := by decide +kernel
theorem dL_law_341 : decode cL_law 341 = .ok (.iload 5, 2) := by decide +kernel
theorem dL_law_343 : decode cL_law 343 = .ok (.if_icmp .eq 5, 3) := by decide +kernel
theorem dL_law_346 : decode cL_law 346 = .ok (.iconst 0, 1) := by decide +kernel
theorem dL_law_347 : decode cL_law 347 = .ok (.ireturn, 1) := by decide +kernel
theorem dL_law_348 : decode cL_law 348 = .ok (.iload 5, 2) := by decide +kernel
theorem dL_law_350 : decode cL_law 350 = .ok (.ifCond .ne 15, 3) := by decide +kernel
theorem dL_law_353 : decode cL_law 353 = .ok (.aload_n 3, 1) := by decide +kernel
theorem dL_law_354 : decode cL_law 354 = .ok (.iconst 0, 1) := by decide +kernel
theorem dL_law_355 : decode cL_law 355 = .ok (.laload, 1) := by decide +kernel
theorem dL_law_356 : decode cL_law 356 = .ok (.iload 6, 2) := by decide +kernel
theorem dL_law_358 : decode cL_law 358 = .ok (.i2l, 1) := by decide +kernel
theorem dL_law_359 : decode cL_law 359 = .ok (.lcmp, 1) := by decide +kernel
theorem dL_law_360 : decode cL_law 360 = .ok (.ifCond .eq 5, 3) := by decide +kernel
theorem dL_law_363 : decode cL_law 363 = .ok (.iconst 0, 1) := by decide +kernel
theorem dL_law_364 : decode cL_law 364 = .ok (.ireturn, 1) := by decide +kernel
theorem dL_law_365 : decode cL_law 365 = .ok (.goto 819, 3) := by decide +kernel
theorem dL_law_368 : decode cL_law 368 = .ok (.aload_n 1, 1) := by decide +kernel
theorem dL_law_369 : decode cL_law 369 = .ok (.aload_n 0, 1) := by decide +kernel
theorem dL_law_370 : decode cL_law 370 = .ok (.iload 4, 2) := by decide +kernel
theorem dL_law_372 : decode cL_law 372 = .ok (.iconst 1, 1) := by decide +kernel
theorem dL_law_373 : decode cL_law 373 = .ok (.iadd, 1) := by decide +kernel
theorem dL_law_374 : decode cL_law 374 = .ok (.iaload, 1) := by decide +kernel
theorem dL_law_375 : decode cL_law 375 = .ok (.aload_n 3, 1) := by decide +kernel
theorem dL_law_376 : decode cL_law 376 = .ok (.invokestatic 93, 3) := by decide +kernel
theorem dL_law_379 : decode cL_law 379 = .ok (.istore 5, 2) := by decide +kernel
theorem dL_law_381 : decode cL_law 381 = .ok (.aload_n 2, 1) := by decide +kernel
theorem dL_law_382 : decode cL_law 382 = .ok (.aload_n 0, 1) := by decide +kernel
theorem dL_law_383 : decode cL_law 383 = .ok (.iload 4, 2) := by decide +kernel
theorem dL_law_385 : decode cL_law 385 = .ok (.iconst 1, 1) := by decide +kernel
theorem dL_law_386 : decode cL_law 386 = .ok (.iadd, 1) := by decide +kernel
theorem dL_law_387 : decode cL_law 387 = .ok (.iaload, 1) := by decide +kernel
theorem dL_law_388 : decode cL_law 388 = .ok (.invokevirtual 95, 3) := by decide +kernel
theorem dL_law_391 : decode cL_law 391 = .ok (.istore 6, 2) := by decide +kernel
theorem dL_law_393 : decode cL_law 393 = .ok (.aload_n 2, 1) := by decide +kernel
theorem dL_law_394 : decode cL_law 394 = .ok (.invokevirtual 79, 3) := by decide +kernel
theorem dL_law_397 : decode cL_law 397 = .ok (.iload 5, 2) := by decide +kernel
theorem dL_law_399 : decode cL_law 399 = .ok (.if_icmp .eq 5, 3) := by decide +kernel
theorem dL_law_402 : decode cL_law 402 = .ok (.iconst 0, 1) := by decide +kernel
theorem dL_law_403 : decode cL_law 403 = .ok (.ireturn, 1) := by decide +kernel
theorem dL_law_404 : decode cL_law 404 = .ok (.iload 5, 2) := by decide +kernel
theorem dL_law_406 : decode cL_law 406 = .ok (.ifCond .ne 15, 3) := by decide +kernel
theorem dL_law_409 : decode cL_law 409 = .ok (.aload_n 3, 1) := by decide +kernel
theorem dL_law_410 : decode cL_law 410 = .ok (.iconst 0, 1) := by decide +kernel
theorem dL_law_411 : decode cL_law 411 = .ok (.laload, 1) := by decide +kernel
theorem dL_law_412 : decode cL_law 412 = .ok (.iload 6, 2) := by decide +kernel
theorem dL_law_414 : decode cL_law 414 = .ok (.i2l, 1) := by decide +kernel
theorem dL_law_415 : decode cL_law 415 = .ok (.lcmp, 1) := by decide +kernel
theorem dL_law_416 : decode cL_law 416 = .ok (.ifCond .eq 5, 3) := by decide +kernel
theorem dL_law_419 : decode cL_law 419 = .ok (.iconst 0, 1) := by decide +kernel
theorem dL_law_420 : decode cL_law 420 = .ok (.ireturn, 1) := by decide +kernel
theorem dL_law_421 : decode cL_law 421 = .ok (.goto 763, 3) := by decide +kernel
theorem dL_law_424 : decode cL_law 424 = .ok (.aload_n 1, 1) := by decide +kernel
theorem dL_law_425 : decode cL_law 425 = .ok (.aload_n 0, 1) := by decide +kernel
theorem dL_law_426 : decode cL_law 426 = .ok (.iload 4, 2) := by decide +kernel
theorem dL_law_428 : decode cL_law 428 = .ok (.iconst 1, 1) := by decide +kernel
theorem dL_law_429 : decode cL_law 429 = .ok (.iadd, 1) := by decide +kernel
theorem dL_law_430 : decode cL_law 430 = .ok (.iaload, 1) := by decide +kernel
theorem dL_law_431 : decode cL_law 431 = .ok (.aload_n 0, 1) := by decide +kernel
theorem dL_law_432 : decode cL_law 432 = .ok (.iload 4, 2) := by decide +kernel
theorem dL_law_434 : decode cL_law 434 = .ok (.iconst 2, 1) := by decide +kernel
theorem dL_law_435 : decode cL_law 435 = .ok (.iadd, 1) := by decide +kernel
theorem dL_law_436 : decode cL_law 436 = .ok (.iaload, 1) := by decide +kernel
theorem dL_law_437 : decode cL_law 437 = .ok (.aload_n 0, 1) := by decide +kernel
theorem dL_law_438 : decode cL_law 438 = .ok (.iload 4, 2) := by decide +kernel
theorem dL_law_440 : decode cL_law 440 = .ok (.iconst 3, 1) := by decide +kernel
theorem dL_law_441 : decode cL_law 441 = .ok (.iadd, 1) := by decide +kernel
theorem dL_law_442 : decode cL_law 442 = .ok (.iaload, 1) := by decide +kernel
theorem dL_law_443 : decode cL_law 443 = .ok (.aload_n 3, 1) := by decide +kernel
theorem dL_law_444 : decode cL_law 444 = .ok (.invokestatic 96, 3) := by decide +kernel
theorem dL_law_447 : decode cL_law 447 = .ok (.istore 5, 2) := by decide +kernel
theorem dL_law_449 : decode cL_law 449 = .ok (.aload_n 2, 1) := by decide +kernel
theorem dL_law_450 : decode cL_law 450 = .ok (.aload_n 0, 1) := by decide +kernel
theorem dL_law_451 : decode cL_law 451 = .ok (.iload 4, 2) := by decide +kernel
theorem dL_law_453 : decode cL_law 453 = .ok (.iconst 1, 1) := by decide +kernel
theorem dL_law_454 : decode cL_law 454 = .ok (.iadd, 1) := by decide +kernel
theorem dL_law_455 : decode cL_law 455 = .ok (.iaload, 1) := by decide +kernel
theorem dL_law_456 : decode cL_law 456 = .ok (.aload_n 0, 1) := by decide +kernel
theorem dL_law_457 : decode cL_law 457 = .ok (.iload 4, 2) := by decide +kernel
theorem dL_law_459 : decode cL_law 459 = .ok (.iconst 2, 1) := by decide +kernel
theorem dL_law_460 : decode cL_law 460 = .ok (.iadd, 1) := by decide +kernel
theorem dL_law_461 : decode cL_law 461 = .ok (.iaload, 1) := by decide +kernel
theorem dL_law_462 : decode cL_law 462 = .ok (.aload_n 0, 1) := by decide +kernel
theorem dL_law_463 : decode cL_law 463 = .ok (.iload 4, 2) := by decide +kernel
theorem dL_law_465 : decode cL_law 465 = .ok (.iconst 3, 1) := by decide +kernel
theorem dL_law_466 : decode cL_law 466 = .ok (.iadd, 1) := by decide +kernel
theorem dL_law_467 : decode cL_law 467 = .ok (.iaload, 1) := by decide +kernel
theorem dL_law_468 : decode cL_law 468 = .ok (.invokevirtual 99, 3) := by decide +kernel
theorem dL_law_471 : decode cL_law 471 = .ok (.istore 6, 2) := by decide +kernel
theorem dL_law_473 : decode cL_law 473 = .ok (.aload_n 2, 1) := by decide +kernel
theorem dL_law_474 : decode cL_law 474 = .ok (.invokevirtual 79, 3) := by decide +kernel
theorem dL_law_477 : decode cL_law 477 = .ok (.iload 5, 2) := by decide +kernel
theorem dL_law_479 : decode cL_law 479 = .ok (.if_icmp .eq 5, 3) := by decide +kernel
theorem dL_law_482 : decode cL_law 482 = .ok (.iconst 0, 1) := by decide +kernel
theorem dL_law_483 : decode cL_law 483 = .ok (.ireturn, 1) := by decide +kernel
theorem dL_law_484 : decode cL_law 484 = .ok (.iload 5, 2) := by decide +kernel
theorem dL_law_486 : decode cL_law 486 = .ok (.ifCond .ne 15, 3) := by decide +kernel
theorem dL_law_489 : decode cL_law 489 = .ok (.aload_n 3, 1) := by decide +kernel
theorem dL_law_490 : decode cL_law 490 = .ok (.iconst 0, 1) := by decide +kernel
theorem dL_law_491 : decode cL_law 491 = .ok (.laload, 1) := by decide +kernel
theorem dL_law_492 : decode cL_law 492 = .ok (.iload 6, 2) := by decide +kernel
theorem dL_law_494 : decode cL_law 494 = .ok (.i2l, 1) := by decide +kernel
theorem dL_law_495 : decode cL_law 495 = .ok (.lcmp, 1) := by decide +kernel
theorem dL_law_496 : decode cL_law 496 = .ok (.ifCond .eq 5, 3) := by decide +kernel
theorem dL_law_499 : decode cL_law 499 = .ok (.iconst 0, 1) := by decide +kernel
theorem dL_law_500 : decode cL_law 500 = .ok (.ireturn, 1) := by decide +kernel
theorem dL_law_501 : decode cL_law 501 = .ok (.goto 683, 3) := by decide +kernel
theorem dL_law_504 : decode cL_law 504 = .ok (.aload_n 1, 1) := by decide +kernel
theorem dL_law_505 : decode cL_law 505 = .ok (.aload_n 0, 1) := by decide +kernel
theorem dL_law_506 : decode cL_law 506 = .ok (.iload 4, 2) := by decide +kernel
theorem dL_law_508 : decode cL_law 508 = .ok (.iconst 1, 1) := by decide +kernel
theorem dL_law_509 : decode cL_law 509 = .ok (.iadd, 1) := by decide +kernel
theorem dL_law_510 : decode cL_law 510 = .ok (.iaload, 1) := by decide +kernel
theorem dL_law_511 : decode cL_law 511 = .ok (.aload_n 0, 1) := by decide +kernel
theorem dL_law_512 : decode cL_law 512 = .ok (.iload 4, 2) := by decide +kernel
theorem dL_law_514 : decode cL_law 514 = .ok (.iconst 2, 1) := by decide +kernel
theorem dL_law_515 : decode cL_law 515 = .ok (.iadd, 1) := by decide +kernel
theorem dL_law_516 : decode cL_law 516 = .ok (.iaload, 1) := by decide +kernel
theorem dL_law_517 : decode cL_law 517 = .ok (.aload_n 0, 1) := by decide +kernel
theorem dL_law_518 : decode cL_law 518 = .ok (.iload 4, 2) := by decide +kernel
theorem dL_law_520 : decode cL_law 520 = .ok (.iconst 3, 1) := by decide +kernel
theorem dL_law_521 : decode cL_law 521 = .ok (.iadd, 1) := by decide +kernel
theorem dL_law_522 : decode cL_law 522 = .ok (.iaload, 1) := by decide +kernel
theorem dL_law_523 : decode cL_law 523 = .ok (.ifCond .eq 7, 3) := by decide +kernel
theorem dL_law_526 : decode cL_law 526 = .ok (.iconst 1, 1) := by decide +kernel
theorem dL_law_527 : decode cL_law 527 = .ok (.goto 4, 3) := by decide +kernel
theorem dL_law_530 : decode cL_law 530 = .ok (.iconst 0, 1) := by decide +kernel
theorem dL_law_531 : decode cL_law 531 = .ok (.aload_n 3, 1) := by decide +kernel
theorem dL_law_532 : decode cL_law 532 = .ok (.invokestatic 100, 3) := by decide +kernel
theorem dL_law_535 : decode cL_law 535 = .ok (.istore 5, 2) := by decide +kernel
theorem dL_law_537 : decode cL_law 537 = .ok (.aload_n 2, 1) := by decide +kernel
theorem dL_law_538 : decode cL_law 538 = .ok (.aload_n 0, 1) := by decide +kernel
theorem dL_law_539 : decode cL_law 539 = .ok (.iload 4, 2) := by decide +kernel
theorem dL_law_541 : decode cL_law 541 = .ok (.iconst 1, 1) := by decide +kernel
theorem dL_law_542 : decode cL_law 542 = .ok (.iadd, 1) := by decide +kernel
theorem dL_law_543 : decode cL_law 543 = .ok (.iaload, 1) := by decide +kernel
theorem dL_law_544 : decode cL_law 544 = .ok (.aload_n 0, 1) := by decide +kernel
theorem dL_law_545 : decode cL_law 545 = .ok (.iload 4, 2) := by decide +kernel
theorem dL_law_547 : decode cL_law 547 = .ok (.iconst 2, 1) := by decide +kernel
theorem dL_law_548 : decode cL_law 548 = .ok (.iadd, 1) := by decide +kernel
theorem dL_law_549 : decode cL_law 549 = .ok (.iaload, 1) := by decide +kernel
theorem dL_law_550 : decode cL_law 550 = .ok (.aload_n 0, 1) := by decide +kernel
theorem dL_law_551 : decode cL_law 551 = .ok (.iload 4, 2) := by decide +kernel
theorem dL_law_553 : decode cL_law 553 = .ok (.iconst 3, 1) := by decide +kernel
theorem dL_law_554 : decode cL_law 554 = .ok (.iadd, 1) := by decide +kernel
theorem dL_law_555 : decode cL_law 555 = .ok (.iaload, 1) := by decide +kernel
theorem dL_law_556 : decode cL_law 556 = .ok (.ifCond .eq 7, 3) := by decide +kernel
theorem dL_law_559 : decode cL_law 559 = .ok (.iconst 1, 1) := by decide +kernel
theorem dL_law_560 : decode cL_law 560 = .ok (.goto 4, 3) := by decide +kernel
theorem dL_law_563 : decode cL_law 563 = .ok (.iconst 0, 1) := by decide +kernel
theorem dL_law_564 : decode cL_law 564 = .ok (.invokevirtual 103, 3) := by decide +kernel
theorem dL_law_567 : decode cL_law 567 = .ok (.istore 6, 2) := by decide +kernel
theorem dL_law_569 : decode cL_law 569 = .ok (.aload_n 2, 1) := by decide +kernel
theorem dL_law_570 : decode cL_law 570 = .ok (.invokevirtual 79, 3) := by decide +kernel
theorem dL_law_573 : decode cL_law 573 = .ok (.iload 5, 2) := by decide +kernel
theorem dL_law_575 : decode cL_law 575 = .ok (.if_icmp .eq 5, 3) := by decide +kernel
theorem dL_law_578 : decode cL_law 578 = .ok (.iconst 0, 1) := by decide +kernel
theorem dL_law_579 : decode cL_law 579 = .ok (.ireturn, 1) := by decide +kernel
theorem dL_law_580 : decode cL_law 580 = .ok (.iload 5, 2) := by decide +kernel
theorem dL_law_582 : decode cL_law 582 = .ok (.ifCond .ne 15, 3) := by decide +kernel
theorem dL_law_585 : decode cL_law 585 = .ok (.aload_n 3, 1) := by decide +kernel
theorem dL_law_586 : decode cL_law 586 = .ok (.iconst 0, 1) := by decide +kernel
theorem dL_law_587 : decode cL_law 587 = .ok (.laload, 1) := by decide +kernel
theorem dL_law_588 : decode cL_law 588 = .ok (.iload 6, 2) := by decide +kernel
theorem dL_law_590 : decode cL_law 590 = .ok (.i2l, 1) := by decide +kernel
theorem dL_law_591 : decode cL_law 591 = .ok (.lcmp, 1) := by decide +kernel
theorem dL_law_592 : decode cL_law 592 = .ok (.ifCond .eq 5, 3) := by decide +kernel
theorem dL_law_595 : decode cL_law 595 = .ok (.iconst 0, 1) := by decide +kernel
theorem dL_law_596 : decode cL_law 596 = .ok (.ireturn, 1) := by decide +kernel
theorem dL_law_597 : decode cL_law 597 = .ok (.goto 587, 3) := by decide +kernel
theorem dL_law_600 : decode cL_law 600 = .ok (.aload_n 1, 1) := by decide +kernel
theorem dL_law_601 : decode cL_law 601 = .ok (.aload_n 0, 1) := by decide +kernel
theorem dL_law_602 : decode cL_law 602 = .ok (.iload 4, 2) := by decide +kernel
theorem dL_law_604 : decode cL_law 604 = .ok (.iconst 1, 1) := by decide +kernel
theorem dL_law_605 : decode cL_law 605 = .ok (.iadd, 1) := by decide +kernel
theorem dL_law_606 : decode cL_law 606 = .ok (.iaload, 1) := by decide +kernel
theorem dL_law_607 : decode cL_law 607 = .ok (.aload_n 3, 1) := by decide +kernel
theorem dL_law_608 : decode cL_law 608 = .ok (.invokestatic 104, 3) := by decide +kernel
theorem dL_law_611 : decode cL_law 611 = .ok (.istore 5, 2) := by decide +kernel
theorem dL_law_613 : decode cL_law 613 = .ok (.aload_n 2, 1) := by decide +kernel
theorem dL_law_614 : decode cL_law 614 = .ok (.aload_n 0, 1) := by decide +kernel
theorem dL_law_615 : decode cL_law 615 = .ok (.iload 4, 2) := by decide +kernel
theorem dL_law_617 : decode cL_law 617 = .ok (.iconst 1, 1) := by decide +kernel
theorem dL_law_618 : decode cL_law 618 = .ok (.iadd, 1) := by decide +kernel
theorem dL_law_619 : decode cL_law 619 = .ok (.iaload, 1) := by decide +kernel
theorem dL_law_620 : decode cL_law 620 = .ok (.invokevirtual 106, 3) := by decide +kernel
theorem dL_law_623 : decode cL_law 623 = .ok (.istore 6, 2) := by decide +kernel
theorem dL_law_625 : decode cL_law 625 = .ok (.aload_n 2, 1) := by decide +kernel
theorem dL_law_626 : decode cL_law 626 = .ok (.invokevirtual 79, 3) := by decide +kernel
theorem dL_law_629 : decode cL_law 629 = .ok (.iload 5, 2) := by decide +kernel
theorem dL_law_631 : decode cL_law 631 = .ok (.if_icmp .eq 5, 3) := by decide +kernel
theorem dL_law_634 : decode cL_law 634 = .ok (.iconst 0, 1) := by decide +kernel
theorem dL_law_635 : decode cL_law 635 = .ok (.ireturn, 1) := by decide +kernel
theorem dL_law_636 : decode cL_law 636 = .ok (.iload 5, 2) := by decide +kernel
theorem dL_law_638 : decode cL_law 638 = .ok (.ifCond .ne 15, 3) := by decide +kernel
theorem dL_law_641 : decode cL_law 641 = .ok (.aload_n 3, 1) := by decide +kernel
theorem dL_law_642 : decode cL_law 642 = .ok (.iconst 0, 1) := by decide +kernel
theorem dL_law_643 : decode cL_law 643 = .ok (.laload, 1) := by decide +kernel
theorem dL_law_644 : decode cL_law 644 = .ok (.iload 6, 2) := by decide +kernel
theorem dL_law_646 : decode cL_law 646 = .ok (.i2l, 1) := by decide +kernel
theorem dL_law_647 : decode cL_law 647 = .ok (.lcmp, 1) := by decide +kernel
theorem dL_law_648 : decode cL_law 648 = .ok (.ifCond .eq 5, 3) := by decide +kernel
theorem dL_law_651 : decode cL_law 651 = .ok (.iconst 0, 1) := by decide +kernel
theorem dL_law_652 : decode cL_law 652 = .ok (.ireturn, 1) := by decide +kernel
theorem dL_law_653 : decode cL_law 653 = .ok (.goto 531, 3) := by decide +kernel
theorem dL_law_656 : decode cL_law 656 = .ok (.aload_n 1, 1) := by decide +kernel
theorem dL_law_657 : decode cL_law 657 = .ok (.aload_n 0, 1) := by decide +kernel
theorem dL_law_658 : decode cL_law 658 = .ok (.iload 4, 2) := by decide +kernel
theorem dL_law_660 : decode cL_law 660 = .ok (.iconst 1, 1) := by decide +kernel
theorem dL_law_661 : decode cL_law 661 = .ok (.iadd, 1) := by decide +kernel
theorem dL_law_662 : decode cL_law 662 = .ok (.iaload, 1) := by decide +kernel
theorem dL_law_663 : decode cL_law 663 = .ok (.aload_n 0, 1) := by decide +kernel
theorem dL_law_664 : decode cL_law 664 = .ok (.iload 4, 2) := by decide +kernel
theorem dL_law_666 : decode cL_law 666 = .ok (.iconst 2, 1) := by decide +kernel
theorem dL_law_667 : decode cL_law 667 = .ok (.iadd, 1) := by decide +kernel
theorem dL_law_668 : decode cL_law 668 = .ok (.iaload, 1) := by decide +kernel
theorem dL_law_669 : decode cL_law 669 = .ok (.aload_n 3, 1) := by decide +kernel
theorem dL_law_670 : decode cL_law 670 = .ok (.invokestatic 107, 3) := by decide +kernel
theorem dL_law_673 : decode cL_law 673 = .ok (.istore 5, 2) := by decide +kernel
theorem dL_law_675 : decode cL_law 675 = .ok (.aload_n 2, 1) := by decide +kernel
theorem dL_law_676 : decode cL_law 676 = .ok (.aload_n 0, 1) := by decide +kernel
theorem dL_law_677 : decode cL_law 677 = .ok (.iload 4, 2) := by decide +kernel
theorem dL_law_679 : decode cL_law 679 = .ok (.iconst 1, 1) := by decide +kernel
theorem dL_law_680 : decode cL_law 680 = .ok (.iadd, 1) := by decide +kernel
theorem dL_law_681 : decode cL_law 681 = .ok (.iaload, 1) := by decide +kernel
theorem dL_law_682 : decode cL_law 682 = .ok (.aload_n 0, 1) := by decide +kernel
theorem dL_law_683 : decode cL_law 683 = .ok (.iload 4, 2) := by decide +kernel
theorem dL_law_685 : decode cL_law 685 = .ok (.iconst 2, 1) := by decide +kernel
theorem dL_law_686 : decode cL_law 686 = .ok (.iadd, 1) := by decide +kernel
theorem dL_law_687 : decode cL_law 687 = .ok (.iaload, 1) := by decide +kernel
theorem dL_law_688 : decode cL_law 688 = .ok (.invokevirtual 109, 3) := by decide +kernel
theorem dL_law_691 : decode cL_law 691 = .ok (.istore 6, 2) := by decide +kernel
theorem dL_law_693 : decode cL_law 693 = .ok (.aload_n 2, 1) := by decide +kernel
theorem dL_law_694 : decode cL_law 694 = .ok (.invokevirtual 79, 3) := by decide +kernel
theorem dL_law_697 : decode cL_law 697 = .ok (.iload 5, 2) := by decide +kernel
theorem dL_law_699 : decode cL_law 699 = .ok (.if_icmp .eq 5, 3) := by decide +kernel
theorem dL_law_702 : decode cL_law 702 = .ok (.iconst 0, 1) := by decide +kernel
theorem dL_law_703 : decode cL_law 703 = .ok (.ireturn, 1) := by decide +kernel
theorem dL_law_704 : decode cL_law 704 = .ok (.iload 5, 2) := by decide +kernel
theorem dL_law_706 : decode cL_law 706 = .ok (.ifCond .ne 15, 3) := by decide +kernel
theorem dL_law_709 : decode cL_law 709 = .ok (.aload_n 3, 1) := by decide +kernel
theorem dL_law_710 : decode cL_law 710 = .ok (.iconst 0, 1) := by decide +kernel
theorem dL_law_711 : decode cL_law 711 = .ok (.laload, 1) := by decide +kernel
theorem dL_law_712 : decode cL_law 712 = .ok (.iload 6, 2) := by decide +kernel
theorem dL_law_714 : decode cL_law 714 = .ok (.i2l, 1) := by decide +kernel
theorem dL_law_715 : decode cL_law 715 = .ok (.lcmp, 1) := by decide +kernel
theorem dL_law_716 : decode cL_law 716 = .ok (.ifCond .eq 5, 3) := by decide +kernel
theorem dL_law_719 : decode cL_law 719 = .ok (.iconst 0, 1) := by decide +kernel
theorem dL_law_720 : decode cL_law 720 = .ok (.ireturn, 1) := by decide +kernel
theorem dL_law_721 : decode cL_law 721 = .ok (.goto 463, 3) := by decide +kernel
theorem dL_law_724 : decode cL_law 724 = .ok (.aload_n 1, 1) := by decide +kernel
theorem dL_law_725 : decode cL_law 725 = .ok (.invokevirtual 110, 3) := by decide +kernel
theorem dL_law_728 : decode cL_law 728 = .ok (.aload_n 2, 1) := by decide +kernel
theorem dL_law_729 : decode cL_law 729 = .ok (.invokevirtual 113, 3) := by decide +kernel
theorem dL_law_732 : decode cL_law 732 = .ok (.if_icmp .eq 452, 3) := by decide +kernel
theorem dL_law_735 : decode cL_law 735 = .ok (.iconst 0, 1) := by decide +kernel
theorem dL_law_736 : decode cL_law 736 = .ok (.ireturn, 1) := by decide +kernel
theorem dL_law_737 : decode cL_law 737 = .ok (.aload_n 1, 1) := by decide +kernel
theorem dL_law_738 : decode cL_law 738 = .ok (.aload_n 0, 1) := by decide +kernel
theorem dL_law_739 : decode cL_law 739 = .ok (.iload 4, 2) := by decide +kernel
theorem dL_law_741 : decode cL_law 741 = .ok (.iconst 1, 1) := by decide +kernel
theorem dL_law_742 : decode cL_law 742 = .ok (.iadd, 1) := by decide +kernel
theorem dL_law_743 : decode cL_law 743 = .ok (.iaload, 1) := by decide +kernel
theorem dL_law_744 : decode cL_law 744 = .ok (.aload_n 0, 1) := by decide +kernel
theorem dL_law_745 : decode cL_law 745 = .ok (.iload 4, 2) := by decide +kernel
theorem dL_law_747 : decode cL_law 747 = .ok (.iconst 2, 1) := by decide +kernel
theorem dL_law_748 : decode cL_law 748 = .ok (.iadd, 1) := by decide +kernel
theorem dL_law_749 : decode cL_law 749 = .ok (.iaload, 1) := by decide +kernel
theorem dL_law_750 : decode cL_law 750 = .ok (.aload_n 3, 1) := by decide +kernel
theorem dL_law_751 : decode cL_law 751 = .ok (.invokestatic 114, 3) := by decide +kernel
theorem dL_law_754 : decode cL_law 754 = .ok (.istore 5, 2) := by decide +kernel
theorem dL_law_756 : decode cL_law 756 = .ok (.aload_n 2, 1) := by decide +kernel
theorem dL_law_757 : decode cL_law 757 = .ok (.aload_n 0, 1) := by decide +kernel
theorem dL_law_758 : decode cL_law 758 = .ok (.iload 4, 2) := by decide +kernel
theorem dL_law_760 : decode cL_law 760 = .ok (.iconst 1, 1) := by decide +kernel
theorem dL_law_761 : decode cL_law 761 = .ok (.iadd, 1) := by decide +kernel
theorem dL_law_762 : decode cL_law 762 = .ok (.iaload, 1) := by decide +kernel
theorem dL_law_763 : decode cL_law 763 = .ok (.aload_n 0, 1) := by decide +kernel
theorem dL_law_764 : decode cL_law 764 = .ok (.iload 4, 2) := by decide +kernel
theorem dL_law_766 : decode cL_law 766 = .ok (.iconst 2, 1) := by decide +kernel
theorem dL_law_767 : decode cL_law 767 = .ok (.iadd, 1) := by decide +kernel
theorem dL_law_768 : decode cL_law 768 = .ok (.iaload, 1) := by decide +kernel
theorem dL_law_769 : decode cL_law 769 = .ok (.invokevirtual 116, 3) := by decide +kernel
theorem dL_law_772 : decode cL_law 772 = .ok (.istore 6, 2) := by decide +kernel
theorem dL_law_774 : decode cL_law 774 = .ok (.aload_n 2, 1) := by decide +kernel
theorem dL_law_775 : decode cL_law 775 = .ok (.invokevirtual 79, 3) := by decide +kernel
theorem dL_law_778 : decode cL_law 778 = .ok (.iload 5, 2) := by decide +kernel
theorem dL_law_780 : decode cL_law 780 = .ok (.if_icmp .eq 5, 3) := by decide +kernel
theorem dL_law_783 : decode cL_law 783 = .ok (.iconst 0, 1) := by decide +kernel
theorem dL_law_784 : decode cL_law 784 = .ok (.ireturn, 1) := by decide +kernel
theorem dL_law_785 : decode cL_law 785 = .ok (.iload 5, 2) := by decide +kernel
theorem dL_law_787 : decode cL_law 787 = .ok (.ifCond .ne 15, 3) := by decide +kernel
theorem dL_law_790 : decode cL_law 790 = .ok (.aload_n 3, 1) := by decide +kernel
theorem dL_law_791 : decode cL_law 791 = .ok (.iconst 0, 1) := by decide +kernel
theorem dL_law_792 : decode cL_law 792 = .ok (.laload, 1) := by decide +kernel
theorem dL_law_793 : decode cL_law 793 = .ok (.iload 6, 2) := by decide +kernel
theorem dL_law_795 : decode cL_law 795 = .ok (.i2l, 1) := by decide +kernel
theorem dL_law_796 : decode cL_law 796 = .ok (.lcmp, 1) := by decide +kernel
theorem dL_law_797 : decode cL_law 797 = .ok (.ifCond .eq 5, 3) := by decide +kernel
theorem dL_law_800 : decode cL_law 800 = .ok (.iconst 0, 1) := by decide +kernel
theorem dL_law_801 : decode cL_law 801 = .ok (.ireturn, 1) := by decide +kernel
theorem dL_law_802 : decode cL_law 802 = .ok (.goto 382, 3) := by decide +kernel
theorem dL_law_805 : decode cL_law 805 = .ok (.aload_n 1, 1) := by decide +kernel
theorem dL_law_806 : decode cL_law 806 = .ok (.aload_n 0, 1) := by decide +kernel
theorem dL_law_807 : decode cL_law 807 = .ok (.iload 4, 2) := by decide +kernel
theorem dL_law_809 : decode cL_law 809 = .ok (.iconst 1, 1) := by decide +kernel
theorem dL_law_810 : decode cL_law 810 = .ok (.iadd, 1) := by decide +kernel
theorem dL_law_811 : decode cL_law 811 = .ok (.iaload, 1) := by decide +kernel
theorem dL_law_812 : decode cL_law 812 = .ok (.aload_n 0, 1) := by decide +kernel
theorem dL_law_813 : decode cL_law 813 = .ok (.iload 4, 2) := by decide +kernel
theorem dL_law_815 : decode cL_law 815 = .ok (.iconst 2, 1) := by decide +kernel
theorem dL_law_816 : decode cL_law 816 = .ok (.iadd, 1) := by decide +kernel
theorem dL_law_817 : decode cL_law 817 = .ok (.iaload, 1) := by decide +kernel
theorem dL_law_818 : decode cL_law 818 = .ok (.aload_n 3, 1) := by decide +kernel
theorem dL_law_819 : decode cL_law 819 = .ok (.invokestatic 117, 3) := by decide +kernel
theorem dL_law_822 : decode cL_law 822 = .ok (.istore 5, 2) := by decide +kernel
theorem dL_law_824 : decode cL_law 824 = .ok (.aload_n 2, 1) := by decide +kernel
theorem dL_law_825 : decode cL_law 825 = .ok (.aload_n 0, 1) := by decide +kernel
theorem dL_law_826 : decode cL_law 826 = .ok (.iload 4, 2) := by decide +kernel
theorem dL_law_828 : decode cL_law 828 = .ok (.iconst 1, 1) := by decide +kernel
theorem dL_law_829 : decode cL_law 829 = .ok (.iadd, 1) := by decide +kernel
theorem dL_law_830 : decode cL_law 830 = .ok (.iaload, 1) := by decide +kernel
theorem dL_law_831 : decode cL_law 831 = .ok (.aload_n 0, 1) := by decide +kernel
theorem dL_law_832 : decode cL_law 832 = .ok (.iload 4, 2) := by decide +kernel
theorem dL_law_834 : decode cL_law 834 = .ok (.iconst 2, 1) := by decide +kernel
theorem dL_law_835 : decode cL_law 835 = .ok (.iadd, 1) := by decide +kernel
theorem dL_law_836 : decode cL_law 836 = .ok (.iaload, 1) := by decide +kernel
theorem dL_law_837 : decode cL_law 837 = .ok (.invokevirtual 119, 3) := by decide +kernel
theorem dL_law_840 : decode cL_law 840 = .ok (.istore 6, 2) := by decide +kernel
theorem dL_law_842 : decode cL_law 842 = .ok (.aload_n 2, 1) := by decide +kernel
theorem dL_law_843 : decode cL_law 843 = .ok (.invokevirtual 79, 3) := by decide +kernel
theorem dL_law_846 : decode cL_law 846 = .ok (.iload 5, 2) := by decide +kernel
theorem dL_law_848 : decode cL_law 848 = .ok (.if_icmp .eq 5, 3) := by decide +kernel
theorem dL_law_851 : decode cL_law 851 = .ok (.iconst 0, 1) := by decide +kernel
theorem dL_law_852 : decode cL_law 852 = .ok (.ireturn, 1) := by decide +kernel
theorem dL_law_853 : decode cL_law 853 = .ok (.iload 5, 2) := by decide +kernel
theorem dL_law_855 : decode cL_law 855 = .ok (.ifCond .ne 22, 3) := by decide +kernel
theorem dL_law_858 : decode cL_law 858 = .ok (.aload_n 3, 1) := by decide +kernel
theorem dL_law_859 : decode cL_law 859 = .ok (.iconst 0, 1) := by decide +kernel
theorem dL_law_860 : decode cL_law 860 = .ok (.laload, 1) := by decide +kernel
theorem dL_law_861 : decode cL_law 861 = .ok (.iload 6, 2) := by decide +kernel
theorem dL_law_863 : decode cL_law 863 = .ok (.ifCond .eq 7, 3) := by decide +kernel
theorem dL_law_866 : decode cL_law 866 = .ok (.lconst 1, 1) := by decide +kernel
theorem dL_law_867 : decode cL_law 867 = .ok (.goto 4, 3) := by decide +kernel
theorem dL_law_870 : decode cL_law 870 = .ok (.lconst 0, 1) := by decide +kernel
theorem dL_law_871 : decode cL_law 871 = .ok (.lcmp, 1) := by decide +kernel
theorem dL_law_872 : decode cL_law 872 = .ok (.ifCond .eq 5, 3) := by decide +kernel
theorem dL_law_875 : decode cL_law 875 = .ok (.iconst 0, 1) := by decide +kernel
theorem dL_law_876 : decode cL_law 876 = .ok (.ireturn, 1) := by decide +kernel
theorem dL_law_877 : decode cL_law 877 = .ok (.goto 307, 3) := by decide +kernel
theorem dL_law_880 : decode cL_law 880 = .ok (.aload_n 1, 1) := by decide +kernel
theorem dL_law_881 : decode cL_law 881 = .ok (.aload_n 0, 1) := by decide +kernel
theorem dL_law_882 : decode cL_law 882 = .ok (.iload 4, 2) := by decide +kernel
theorem dL_law_884 : decode cL_law 884 = .ok (.iconst 1, 1) := by decide +kernel
theorem dL_law_885 : decode cL_law 885 = .ok (.iadd, 1) := by decide +kernel
theorem dL_law_886 : decode cL_law 886 = .ok (.iaload, 1) := by decide +kernel
theorem dL_law_887 : decode cL_law 887 = .ok (.aload_n 0, 1) := by decide +kernel
theorem dL_law_888 : decode cL_law 888 = .ok (.iload 4, 2) := by decide +kernel
theorem dL_law_890 : decode cL_law 890 = .ok (.iconst 2, 1) := by decide +kernel
theorem dL_law_891 : decode cL_law 891 = .ok (.iadd, 1) := by decide +kernel
theorem dL_law_892 : decode cL_law 892 = .ok (.iaload, 1) := by decide +kernel
theorem dL_law_893 : decode cL_law 893 = .ok (.aload_n 3, 1) := by decide +kernel
theorem dL_law_894 : decode cL_law 894 = .ok (.invokestatic 120, 3) := by decide +kernel
theorem dL_law_897 : decode cL_law 897 = .ok (.istore 5, 2) := by decide +kernel
theorem dL_law_899 : decode cL_law 899 = .ok (.aload_n 2, 1) := by decide +kernel
theorem dL_law_900 : decode cL_law 900 = .ok (.aload_n 0, 1) := by decide +kernel
theorem dL_law_901 : decode cL_law 901 = .ok (.iload 4, 2) := by decide +kernel
theorem dL_law_903 : decode cL_law 903 = .ok (.iconst 1, 1) := by decide +kernel
theorem dL_law_904 : decode cL_law 904 = .ok (.iadd, 1) := by decide +kernel
theorem dL_law_905 : decode cL_law 905 = .ok (.iaload, 1) := by decide +kernel
theorem dL_law_906 : decode cL_law 906 = .ok (.aload_n 0, 1) := by decide +kernel
theorem dL_law_907 : decode cL_law 907 = .ok (.iload 4, 2) := by decide +kernel
theorem dL_law_909 : decode cL_law 909 = .ok (.iconst 2, 1) := by decide +kernel
theorem dL_law_910 : decode cL_law 910 = .ok (.iadd, 1) := by decide +kernel
theorem dL_law_911 : decode cL_law 911 = .ok (.iaload, 1) := by decide +kernel
theorem dL_law_912 : decode cL_law 912 = .ok (.invokevirtual 122, 3) := by decide +kernel
theorem dL_law_915 : decode cL_law 915 = .ok (.istore 6, 2) := by decide +kernel
theorem dL_law_917 : decode cL_law 917 = .ok (.aload_n 2, 1) := by decide +kernel
theorem dL_law_918 : decode cL_law 918 = .ok (.invokevirtual 79, 3) := by decide +kernel
theorem dL_law_921 : decode cL_law 921 = .ok (.iload 5, 2) := by decide +kernel
theorem dL_law_923 : decode cL_law 923 = .ok (.if_icmp .eq 5, 3) := by decide +kernel
theorem dL_law_926 : decode cL_law 926 = .ok (.iconst 0, 1) := by decide +kernel
theorem dL_law_927 : decode cL_law 927 = .ok (.ireturn, 1) := by decide +kernel
theorem dL_law_928 : decode cL_law 928 = .ok (.iload 5, 2) := by decide +kernel
theorem dL_law_930 : decode cL_law 930 = .ok (.ifCond .ne 15, 3) := by decide +kernel
theorem dL_law_933 : decode cL_law 933 = .ok (.aload_n 3, 1) := by decide +kernel
theorem dL_law_934 : decode cL_law 934 = .ok (.iconst 0, 1) := by decide +kernel
theorem dL_law_935 : decode cL_law 935 = .ok (.laload, 1) := by decide +kernel
theorem dL_law_936 : decode cL_law 936 = .ok (.iload 6, 2) := by decide +kernel
theorem dL_law_938 : decode cL_law 938 = .ok (.i2l, 1) := by decide +kernel
theorem dL_law_939 : decode cL_law 939 = .ok (.lcmp, 1) := by decide +kernel
theorem dL_law_940 : decode cL_law 940 = .ok (.ifCond .eq 5, 3) := by decide +kernel
theorem dL_law_943 : decode cL_law 943 = .ok (.iconst 0, 1) := by decide +kernel
theorem dL_law_944 : decode cL_law 944 = .ok (.ireturn, 1) := by decide +kernel
theorem dL_law_945 : decode cL_law 945 = .ok (.goto 239, 3) := by decide +kernel
theorem dL_law_948 : decode cL_law 948 = .ok (.aload_n 1, 1) := by decide +kernel
theorem dL_law_949 : decode cL_law 949 = .ok (.aload_n 0, 1) := by decide +kernel
theorem dL_law_950 : decode cL_law 950 = .ok (.iload 4, 2) := by decide +kernel
theorem dL_law_952 : decode cL_law 952 = .ok (.iconst 1, 1) := by decide +kernel
theorem dL_law_953 : decode cL_law 953 = .ok (.iadd, 1) := by decide +kernel
theorem dL_law_954 : decode cL_law 954 = .ok (.iaload, 1) := by decide +kernel
theorem dL_law_955 : decode cL_law 955 = .ok (.aload_n 3, 1) := by decide +kernel
theorem dL_law_956 : decode cL_law 956 = .ok (.invokestatic 123, 3) := by decide +kernel
theorem dL_law_959 : decode cL_law 959 = .ok (.istore 5, 2) := by decide +kernel
theorem dL_law_961 : decode cL_law 961 = .ok (.aload_n 2, 1) := by decide +kernel
theorem dL_law_962 : decode cL_law 962 = .ok (.aload_n 0, 1) := by decide +kernel
theorem dL_law_963 : decode cL_law 963 = .ok (.iload 4, 2) := by decide +kernel
theorem dL_law_965 : decode cL_law 965 = .ok (.iconst 1, 1) := by decide +kernel
theorem dL_law_966 : decode cL_law 966 = .ok (.iadd, 1) := by decide +kernel
theorem dL_law_967 : decode cL_law 967 = .ok (.iaload, 1) := by decide +kernel
theorem dL_law_968 : decode cL_law 968 = .ok (.invokevirtual 125, 3) := by decide +kernel
theorem dL_law_971 : decode cL_law 971 = .ok (.istore 6, 2) := by decide +kernel
theorem dL_law_973 : decode cL_law 973 = .ok (.aload_n 2, 1) := by decide +kernel
theorem dL_law_974 : decode cL_law 974 = .ok (.invokevirtual 79, 3) := by decide +kernel
theorem dL_law_977 : decode cL_law 977 = .ok (.iload 5, 2) := by decide +kernel
theorem dL_law_979 : decode cL_law 979 = .ok (.if_icmp .eq 5, 3) := by decide +kernel
theorem dL_law_982 : decode cL_law 982 = .ok (.iconst 0, 1) := by decide +kernel
theorem dL_law_983 : decode cL_law 983 = .ok (.ireturn, 1) := by decide +kernel
theorem dL_law_984 : decode cL_law 984 = .ok (.iload 5, 2) := by decide +kernel
theorem dL_law_986 : decode cL_law 986 = .ok (.ifCond .ne 15, 3) := by decide +kernel
theorem dL_law_989 : decode cL_law 989 = .ok (.aload_n 3, 1) := by decide +kernel
theorem dL_law_990 : decode cL_law 990 = .ok (.iconst 0, 1) := by decide +kernel
theorem dL_law_991 : decode cL_law 991 = .ok (.laload, 1) := by decide +kernel
theorem dL_law_992 : decode cL_law 992 = .ok (.iload 6, 2) := by decide +kernel
theorem dL_law_994 : decode cL_law 994 = .ok (.i2l, 1) := by decide +kernel
theorem dL_law_995 : decode cL_law 995 = .ok (.lcmp, 1) := by decide +kernel
theorem dL_law_996 : decode cL_law 996 = .ok (.ifCond .eq 5, 3) := by decide +kernel
theorem dL_law_999 : decode cL_law 999 = .ok (.iconst 0, 1) := by decide +kernel
theorem dL_law_1000 : decode cL_law 1000 = .ok (.ireturn, 1) := by decide +kernel
theorem dL_law_1001 : decode cL_law 1001 = .ok (.goto 183, 3) := by decide +kernel
theorem dL_law_1004 : decode cL_law 1004 = .ok (.aload_n 1, 1) := by decide +kernel
theorem dL_law_1005 : decode cL_law 1005 = .ok (.aload_n 0, 1) := by decide +kernel
theorem dL_law_1006 : decode cL_law 1006 = .ok (.iload 4, 2) := by decide +kernel
theorem dL_law_1008 : decode cL_law 1008 = .ok (.iconst 1, 1) := by decide +kernel
theorem dL_law_1009 : decode cL_law 1009 = .ok (.iadd, 1) := by decide +kernel
theorem dL_law_1010 : decode cL_law 1010 = .ok (.iaload, 1) := by decide +kernel
theorem dL_law_1011 : decode cL_law 1011 = .ok (.aload_n 3, 1) := by decide +kernel
theorem dL_law_1012 : decode cL_law 1012 = .ok (.invokestatic 126, 3) := by decide +kernel
theorem dL_law_1015 : decode cL_law 1015 = .ok (.istore 5, 2) := by decide +kernel
theorem dL_law_1017 : decode cL_law 1017 = .ok (.aload_n 2, 1) := by decide +kernel
theorem dL_law_1018 : decode cL_law 1018 = .ok (.aload_n 0, 1) := by decide +kernel
theorem dL_law_1019 : decode cL_law 1019 = .ok (.iload 4, 2) := by decide +kernel
theorem dL_law_1021 : decode cL_law 1021 = .ok (.iconst 1, 1) := by decide +kernel
theorem dL_law_1022 : decode cL_law 1022 = .ok (.iadd, 1) := by decide +kernel
theorem dL_law_1023 : decode cL_law 1023 = .ok (.iaload, 1) := by decide +kernel
theorem dL_law_1024 : decode cL_law 1024 = .ok (.invokevirtual 128, 3) := by decide +kernel
theorem dL_law_1027 : decode cL_law 1027 = .ok (.istore 6, 2) := by decide +kernel
theorem dL_law_1029 : decode cL_law 1029 = .ok (.aload_n 2, 1) := by decide +kernel
theorem dL_law_1030 : decode cL_law 1030 = .ok (.invokevirtual 79, 3) := by decide +kernel
theorem dL_law_1033 : decode cL_law 1033 = .ok (.iload 5, 2) := by decide +kernel
theorem dL_law_1035 : decode cL_law 1035 = .ok (.if_icmp .eq 5, 3) := by decide +kernel
theorem dL_law_1038 : decode cL_law 1038 = .ok (.iconst 0, 1) := by decide +kernel
theorem dL_law_1039 : decode cL_law 1039 = .ok (.ireturn, 1) := by decide +kernel
theorem dL_law_1040 : decode cL_law 1040 = .ok (.iload 5, 2) := by decide +kernel
theorem dL_law_1042 : decode cL_law 1042 = .ok (.ifCond .ne 15, 3) := by decide +kernel
theorem dL_law_1045 : decode cL_law 1045 = .ok (.aload_n 3, 1) := by decide +kernel
theorem dL_law_1046 : decode cL_law 1046 = .ok (.iconst 0, 1) := by decide +kernel
theorem dL_law_1047 : decode cL_law 1047 = .ok (.laload, 1) := by decide +kernel
theorem dL_law_1048 : decode cL_law 1048 = .ok (.iload 6, 2) := by decide +kernel
theorem dL_law_1050 : decode cL_law 1050 = .ok (.i2l, 1) := by decide +kernel
theorem dL_law_1051 : decode cL_law 1051 = .ok (.lcmp, 1) := by decide +kernel
theorem dL_law_1052 : decode cL_law 1052 = .ok (.ifCond .eq 5, 3) := by decide +kernel
theorem dL_law_1055 : decode cL_law 1055 = .ok (.iconst 0, 1) := by decide +kernel
theorem dL_law_1056 : decode cL_law 1056 = .ok (.ireturn, 1) := by decide +kernel
theorem dL_law_1057 : decode cL_law 1057 = .ok (.goto 127, 3) := by decide +kernel
theorem dL_law_1060 : decode cL_law 1060 = .ok (.aload_n 1, 1) := by decide +kernel
theorem dL_law_1061 : decode cL_law 1061 = .ok (.aload_n 0, 1) := by decide +kernel
theorem dL_law_1062 : decode cL_law 1062 = .ok (.iload 4, 2) := by decide +kernel
theorem dL_law_1064 : decode cL_law 1064 = .ok (.iconst 1, 1) := by decide +kernel
theorem dL_law_1065 : decode cL_law 1065 = .ok (.iadd, 1) := by decide +kernel
theorem dL_law_1066 : decode cL_law 1066 = .ok (.iaload, 1) := by decide +kernel
theorem dL_law_1067 : decode cL_law 1067 = .ok (.aload_n 0, 1) := by decide +kernel
theorem dL_law_1068 : decode cL_law 1068 = .ok (.iload 4, 2) := by decide +kernel
theorem dL_law_1070 : decode cL_law 1070 = .ok (.iconst 2, 1) := by decide +kernel
theorem dL_law_1071 : decode cL_law 1071 = .ok (.iadd, 1) := by decide +kernel
theorem dL_law_1072 : decode cL_law 1072 = .ok (.iaload, 1) := by decide +kernel
theorem dL_law_1073 : decode cL_law 1073 = .ok (.aload_n 3, 1) := by decide +kernel
theorem dL_law_1074 : decode cL_law 1074 = .ok (.invokestatic 129, 3) := by decide +kernel
theorem dL_law_1077 : decode cL_law 1077 = .ok (.istore 5, 2) := by decide +kernel
theorem dL_law_1079 : decode cL_law 1079 = .ok (.aload_n 2, 1) := by decide +kernel
theorem dL_law_1080 : decode cL_law 1080 = .ok (.aload_n 0, 1) := by decide +kernel
theorem dL_law_1081 : decode cL_law 1081 = .ok (.iload 4, 2) := by decide +kernel
theorem dL_law_1083 : decode cL_law 1083 = .ok (.iconst 1, 1) := by decide +kernel
theorem dL_law_1084 : decode cL_law 1084 = .ok (.iadd, 1) := by decide +kernel
theorem dL_law_1085 : decode cL_law 1085 = .ok (.iaload, 1) := by decide +kernel
theorem dL_law_1086 : decode cL_law 1086 = .ok (.aload_n 0, 1) := by decide +kernel
theorem dL_law_1087 : decode cL_law 1087 = .ok (.iload 4, 2) := by decide +kernel
theorem dL_law_1089 : decode cL_law 1089 = .ok (.iconst 2, 1) := by decide +kernel
theorem dL_law_1090 : decode cL_law 1090 = .ok (.iadd, 1) := by decide +kernel
theorem dL_law_1091 : decode cL_law 1091 = .ok (.iaload, 1) := by decide +kernel
theorem dL_law_1092 : decode cL_law 1092 = .ok (.invokevirtual 131, 3) := by decide +kernel
theorem dL_law_1095 : decode cL_law 1095 = .ok (.istore 6, 2) := by decide +kernel
theorem dL_law_1097 : decode cL_law 1097 = .ok (.aload_n 2, 1) := by decide +kernel
theorem dL_law_1098 : decode cL_law 1098 = .ok (.invokevirtual 79, 3) := by decide +kernel
theorem dL_law_1101 : decode cL_law 1101 = .ok (.iload 5, 2) := by decide +kernel
theorem dL_law_1103 : decode cL_law 1103 = .ok (.if_icmp .eq 5, 3) := by decide +kernel
theorem dL_law_1106 : decode cL_law 1106 = .ok (.iconst 0, 1) := by decide +kernel
theorem dL_law_1107 : decode cL_law 1107 = .ok (.ireturn, 1) := by decide +kernel
theorem dL_law_1108 : decode cL_law 1108 = .ok (.iload 5, 2) := by decide +kernel
theorem dL_law_1110 : decode cL_law 1110 = .ok (.ifCond .ne 15, 3) := by decide +kernel
theorem dL_law_1113 : decode cL_law 1113 = .ok (.aload_n 3, 1) := by decide +kernel
theorem dL_law_1114 : decode cL_law 1114 = .ok (.iconst 0, 1) := by decide +kernel
theorem dL_law_1115 : decode cL_law 1115 = .ok (.laload, 1) := by decide +kernel
theorem dL_law_1116 : decode cL_law 1116 = .ok (.iload 6, 2) := by decide +kernel
theorem dL_law_1118 : decode cL_law 1118 = .ok (.i2l, 1) := by decide +kernel
theorem dL_law_1119 : decode cL_law 1119 = .ok (.lcmp, 1) := by decide +kernel
theorem dL_law_1120 : decode cL_law 1120 = .ok (.ifCond .eq 5, 3) := by decide +kernel
theorem dL_law_1123 : decode cL_law 1123 = .ok (.iconst 0, 1) := by decide +kernel
theorem dL_law_1124 : decode cL_law 1124 = .ok (.ireturn, 1) := by decide +kernel
theorem dL_law_1125 : decode cL_law 1125 = .ok (.goto 59, 3) := by decide +kernel
theorem dL_law_1128 : decode cL_law 1128 = .ok (.aload_n 1, 1) := by decide +kernel
theorem dL_law_1129 : decode cL_law 1129 = .ok (.aload_n 0, 1) := by decide +kernel
theorem dL_law_1130 : decode cL_law 1130 = .ok (.iload 4, 2) := by decide +kernel
theorem dL_law_1132 : decode cL_law 1132 = .ok (.iconst 1, 1) := by decide +kernel
theorem dL_law_1133 : decode cL_law 1133 = .ok (.iadd, 1) := by decide +kernel
theorem dL_law_1134 : decode cL_law 1134 = .ok (.iaload, 1) := by decide +kernel
theorem dL_law_1135 : decode cL_law 1135 = .ok (.aload_n 3, 1) := by decide +kernel
theorem dL_law_1136 : decode cL_law 1136 = .ok (.invokestatic 132, 3) := by decide +kernel
theorem dL_law_1139 : decode cL_law 1139 = .ok (.istore 5, 2) := by decide +kernel
theorem dL_law_1141 : decode cL_law 1141 = .ok (.aload_n 2, 1) := by decide +kernel
theorem dL_law_1142 : decode cL_law 1142 = .ok (.aload_n 0, 1) := by decide +kernel
theorem dL_law_1143 : decode cL_law 1143 = .ok (.iload 4, 2) := by decide +kernel
theorem dL_law_1145 : decode cL_law 1145 = .ok (.iconst 1, 1) := by decide +kernel
theorem dL_law_1146 : decode cL_law 1146 = .ok (.iadd, 1) := by decide +kernel
theorem dL_law_1147 : decode cL_law 1147 = .ok (.iaload, 1) := by decide +kernel
theorem dL_law_1148 : decode cL_law 1148 = .ok (.invokevirtual 134, 3) := by decide +kernel
theorem dL_law_1151 : decode cL_law 1151 = .ok (.istore 6, 2) := by decide +kernel
theorem dL_law_1153 : decode cL_law 1153 = .ok (.aload_n 2, 1) := by decide +kernel
theorem dL_law_1154 : decode cL_law 1154 = .ok (.invokevirtual 79, 3) := by decide +kernel
theorem dL_law_1157 : decode cL_law 1157 = .ok (.iload 5, 2) := by decide +kernel
theorem dL_law_1159 : decode cL_law 1159 = .ok (.if_icmp .eq 5, 3) := by decide +kernel
theorem dL_law_1162 : decode cL_law 1162 = .ok (.iconst 0, 1) := by decide +kernel
theorem dL_law_1163 : decode cL_law 1163 = .ok (.ireturn, 1) := by decide +kernel
theorem dL_law_1164 : decode cL_law 1164 = .ok (.iload 5, 2) := by decide +kernel
theorem dL_law_1166 : decode cL_law 1166 = .ok (.ifCond .ne 15, 3) := by decide +kernel
theorem dL_law_1169 : decode cL_law 1169 = .ok (.aload_n 3, 1) := by decide +kernel
theorem dL_law_1170 : decode cL_law 1170 = .ok (.iconst 0, 1) := by decide +kernel
theorem dL_law_1171 : decode cL_law 1171 = .ok (.laload, 1) := by decide +kernel
theorem dL_law_1172 : decode cL_law 1172 = .ok (.iload 6, 2) := by decide +kernel
theorem dL_law_1174 : decode cL_law 1174 = .ok (.i2l, 1) := by decide +kernel
theorem dL_law_1175 : decode cL_law 1175 = .ok (.lcmp, 1) := by decide +kernel
theorem dL_law_1176 : decode cL_law 1176 = .ok (.ifCond .eq 5, 3) := by decide +kernel
theorem dL_law_1179 : decode cL_law 1179 = .ok (.iconst 0, 1) := by decide +kernel
theorem dL_law_1180 : decode cL_law 1180 = .ok (.ireturn, 1) := by decide +kernel
theorem dL_law_1181 : decode cL_law 1181 = .ok (.goto 3, 3) := by decide +kernel
theorem dL_law_1184 : decode cL_law 1184 = .ok (.iinc 4 4, 3) := by decide +kernel
theorem dL_law_1187 : decode cL_law 1187 = .ok (.goto (-1164), 3) := by decide +kernel
theorem dL_law_1190 : decode cL_law 1190 = .ok (.iconst 1, 1) := by decide +kernel
theorem dL_law_1191 : decode cL_law 1191 = .ok (.ireturn, 1) := by decide +kernel
end
section
abbrev vwCl : List vw_C := [(RJ4, TJ4, 4), (RJx4a65c, TJx4a65c, 3), (RX0, TX0, 3), (RX1, TX1, 6), (RX2, TX2, 2), (RX3, TX3, 8), (RX4, TX4, 5), (RX6, TX6, 6), (RX7, TX7, 23)]
/-! THE Z LAYER: a walk over an abstract heap (a function from addresses to cells), all of the machine hidden in one tuple X. -/
abbrev zH : Type := Nat → Option va_E
def zput (h : zH) (a : Nat) (e : va_E) : zH := fun q => if q = a then some e else h q
theorem zput_same (h : zH) (a : Nat) (e : va_E) : zput h a e a = some e := by simp [zput]
theorem zput_ne (h : zH) {a b : Nat} (e : va_E) (hb : b ≠ a) : zput h a e b = h b := by simp [zput, hb]
theorem zput_ne' (h : zH) {a b : Nat} (e : va_E) (ha : h a = none) {x : va_E} (hb : h b = some x) : zput h a e b = some x := by
  rw [zput_ne h e (fun q => by rw [q, ha] at hb; cases hb)]
  exact hb
def zHold (D : va_G) (h : zH) (H : Heap) : Prop := ∀ (a : Nat) (e : va_E), h a = some e → va_at D vwCl (a, e) H
def zA (h : zH) (n : Nat) : Nat → Prop := fun q => h q ≠ none ∨ n ≤ q
def jI (x : Int) : Int32 := Int32.ofInt x
def vI (x : Int) : Value := .int (jI x)
def eI (cA : ClassId) (n : Nat) (f : Nat → Int) : va_E := .inl (cA, n, .inl (fun j => jI (f j)))
def eR (cA : ClassId) (n : Nat) (f : Nat → Option Nat) : va_E := .inl (cA, n, .inr (.inr (.inr (.inr f))))
def eL (cA : ClassId) (n : Nat) (f : Nat → Int64) : va_E := .inl (cA, n, .inr (.inl f))
def eO (ci : Nat) (fs : List Value) : va_E := .inr (ci, fs)
theorem zHold.one {D : va_G} {h : zH} {H : Heap} (hh : zHold D h H) {a : Nat} {e : va_E} (ha : h a = some e) : va_P D vwCl [(a, e)] H := by
  intro k q hk
  cases k with
  | zero => cases hk; exact hh a e ha
  | succ k => simp at hk
theorem zHold.lt {D : va_G} {h : zH} {H : Heap} (hh : zHold D h H) {a : Nat} {e : va_E} (ha : h a = some e) : a < H.size := (hh a e ha).lt
theorem zHold.fresh {D : va_G} {h : zH} {H : Heap} (hh : zHold D h H) : h H.size = none := by
  cases hc : h H.size with
  | none => rfl
  | some e => exact absurd (hh.lt hc) (Nat.lt_irrefl _)
theorem zHold.kept {D : va_G} {h : zH} {H H1 : Heap} (hh : zHold D h H) (hq : ∀ q : Nat, q < H.size → H1[q]? = H[q]?) : zHold D h H1 := fun a e ha => (hh a e ha).kept (hq a (hh.lt ha))
theorem zHold.put {D : va_G} {h : zH} {H H1 : Heap} (hh : zHold D h H) {a : Nat} {e : va_E} (he : va_at D vwCl (a, e) H1) (oq : ∀ q : Nat, q < H.size → q ≠ a → H1[q]? = H[q]?) : zHold D (zput h a e) H1 := by
  intro b x hb
  by_cases q : b = a
  · subst q
    rw [zput_same] at hb
    cases hb
    exact he
  · rw [zput_ne h e q] at hb
    exact (hh b x hb).kept (oq b (hh.lt hb) q)
/-- all good words of the tables -/
def zW : List Cond := lw_tbl.filter goodWord
theorem zW_of {w : Cond} (i : Nat) (h : lw_tbl[i]? = some w) (g : goodWord w = true) : w ∈ zW := List.mem_filter.mpr ⟨List.mem_of_getElem? h, g⟩
theorem zW_good {w : Cond} (h : w ∈ zW) : goodWord w = true := (List.mem_filter.mp h).2
theorem zW_sub {ws : List Cond} (h : ws.all (fun w => decide (w ∈ lw_tbl) && goodWord w) = true) : ∀ w ∈ ws, w ∈ zW := fun w hw => by
  have h1 := List.all_eq_true.mp h w hw
  simp only [Bool.and_eq_true, decide_eq_true_eq] at h1
  exact List.mem_filter.mpr h1
/-- what is fixed for the whole run: class tables, the arrays' classes (int, boolean, byte, Object, long), addresses of what statics hold -/
abbrev zG : Type := va_G × (Nat → ClassId) × (Nat → Nat)
def zty (y : Nat → ClassId) : List (ClassId × FieldType) := [(y 0, .int), (y 1, .boolean), (y 2, .byte), (y 3, .object "java/lang/Object"), (y 4, .long)]
def zK (G : zG) (U : State) : Prop := va_K G.1 vwCl (zty G.2.1) U
theorem zK.moved {G : zG} {u U : State} (hvm : u.vm.Alike U.vm) (h : zK G u) : zK G U := va_K.moved hvm h
def zWayD : String := "LBandwidthclub$Way;"
def zWayN (i : Nat) : String := match i with
  | 0 => "OWN_CACHE"
  | 1 => "OTHER_CACHE"
  | 2 => "OUTSIDE"
  | _ => "LEFT"
def zFirst (j : Nat) : Int := if j = 0 then 4 else if j = 1 then 2 else 1
/-- the texts of the exceptions: (class, place in its pool, text) -/
def zTexts : List (String × Nat × String) := [("Bandwidthclub", 34, "units are out of range"), ("Bandwidthclub", 39, "room is out of range"), ("Bandwidthclub", 47, "there were 10 members"), ("Bandwidthclub", 109, "size is out of range"), ("Bandwidthclub", 111, "there are 20 films"), ("Bandwidthclub", 122, "300 films were fetched"), ("Bandwidthclub", 156, "hours are out of range"), ("Bandwidthclub", 158, "the hour would be above 2000"), ("Bandwidthclub", 169, "value is out of range"), ("Bandwidthclub", 171, "there are 30 proposals"), ("Bandwidthclub", 179, "the proposal is decided"), ("Bandwidthclub", 227, "at is below 0"), ("Bandwidthclub", 244, "no such member"), ("Bandwidthclub", 246, "the member is not in the club"), ("Bandwidthclub", 248, "no such film"), ("Bandwidthclub", 250, "no such proposal"), ("Bandwidthclub", 255, "no such rule"), ("Bandwidthclub", 257, "what is out of range"), ("Bandwidthclub", 284, "the lines have not so much left")]
def zBG (G : zG) (A : Nat → Prop) (U : State) (H : Heap) : Prop :=
  (∀ i : Nat, i < 4 → va_Z "Bandwidthclub$Way" (zWayN i) zWayD (.ref (G.2.2 i)) A U H) ∧
  (∀ i j : Nat, i < 4 → j < 4 → i ≠ j → G.2.2 i ≠ G.2.2 j) ∧
  va_Z "Bandwidthclub" "FIRST_VALUES" "[I" (.ref (G.2.2 4)) A U H ∧
  va_T .int (G.2.2 4) 3 (fun j => vI (zFirst j)) A U H ∧
  va_Z "java/util/ArrayList" "DEFAULTCAPACITY_EMPTY_ELEMENTDATA" "[Ljava/lang/Object;" (.ref (G.2.2 5)) A U H ∧
  va_T (.object "java/lang/Object") (G.2.2 5) 0 (fun _ => .null) A U H ∧
  va_Z "java/lang/String" "COMPACT_STRINGS" "Z" (.int 1) A U H ∧
  vx_Zq Bundle.tN "UNASSIGNED_STACK" Bundle.steD A U H ∧ vx_Zq Bundle.tN "SUPPRESSED_SENTINEL" Bundle.listD A U H ∧
  (∀ q ∈ zTexts, ∃ a : Nat, vk_R q.1 q.2.1 q.2.2 a U)
theorem zBG.warm {G : zG} {A : Nat → Prop} {u U : State} {H : Heap} (hW : u.WarmedH U.vm) (h : zBG G A u H) : zBG G A U H := by
  have hvm := hW.alike
  obtain ⟨h1, h2, h3, h4, h5, h6, h7, h8, h9, h10⟩ := h
  refine ⟨fun i hi => (h1 i hi).moved hvm, h2, h3.moved hvm, h4.moved hvm, h5.moved hvm, h6.moved hvm, h7.moved hvm, h8.moved hvm, h9.moved hvm, fun q hq => ?_⟩
  obtain ⟨a, ha⟩ := h10 q hq
  exact ⟨a, ha.warm hW⟩
theorem zBG.kept {G : zG} {A : Nat → Prop} {U : State} {H H1 : Heap} (h : zBG G A U H) (hq : ∀ a : Nat, a < H.size → ¬ A a → H1[a]? = H[a]?) : zBG G A U H1 := by
  obtain ⟨h1, h2, h3, h4, h5, h6, h7, h8, h9, h10⟩ := h
  exact ⟨fun i hi => (h1 i hi).kept hq, h2, h3.kept hq, h4.kept hq, h5.kept hq, h6.kept hq, h7.kept hq, h8.kept hq, h9.kept hq, h10⟩
theorem zBG.narrow {G : zG} {A B : Nat → Prop} {U : State} {H : Heap} (h : zBG G A U H) (hAB : ∀ q, B q → A q) : zBG G B U H := by
  obtain ⟨h1, h2, h3, h4, h5, h6, h7, h8, h9, h10⟩ := h
  exact ⟨fun i hi => (h1 i hi).narrow hAB, h2, h3.narrow hAB, h4.narrow hAB, h5.narrow hAB, h6.narrow hAB, h7.narrow hAB, h8.narrow hAB, h9.narrow hAB, h10⟩
/-- the locals: a list from place 0 on, values of one slot each -/
def zL (ls : Array Slot) (nL : Nat) (l : List Value) : Prop := ls.size = nL ∧ lv_wf ls ∧ ∀ (i : Nat) (v : Value), l[i]? = some v → ls[i]? = some (.val v) ∧ v.category = 1
def zset (l : List Value) (i : Nat) (v : Value) : List Value := l.take i ++ v :: l.drop (i + 1)
def zzip (l : List Value) : List (Nat × Value) := (List.range l.length).filterMap (fun i => (l[i]?).map (fun v => (i, v)))
theorem zzip_mem {l : List Value} {q : Nat × Value} : q ∈ zzip l ↔ l[q.1]? = some q.2 := by
  constructor
  · intro h
    obtain ⟨i, -, hi⟩ := List.mem_filterMap.mp h
    cases hv : l[i]? with
    | none => rw [hv] at hi; cases hi
    | some v => rw [hv] at hi; cases hi; exact hv
  · intro h
    exact List.mem_filterMap.mpr ⟨q.1, List.mem_range.mpr (List.getElem?_eq_some_iff.mp h).1, by rw [h]; rfl⟩
theorem zL.has {ls : Array Slot} {nL : Nat} {l : List Value} (h : zL ls nL l) : lv_has ls nL (zzip l) := ⟨h.1, h.2.1, fun q hq => (h.2.2 q.1 q.2 (zzip_mem.mp hq)).1⟩
theorem zset_get {l : List Value} {i : Nat} {v : Value} (hi : i ≤ l.length) {j : Nat} {w : Value} (h : (zset l i v)[j]? = some w) : (j = i ∧ w = v) ∨ (j ≠ i ∧ l[j]? = some w) := by
  have ht : (l.take i).length = i := by rw [List.length_take]; omega
  unfold zset at h
  rcases Nat.lt_trichotomy j i with q | q | q
  · rw [List.getElem?_append_left (by omega), List.getElem?_take, if_pos q] at h
    exact Or.inr ⟨by omega, h⟩
  · subst q
    rw [List.getElem?_append_right (by omega), ht, Nat.sub_self, List.getElem?_cons_zero] at h
    exact Or.inl ⟨rfl, (Option.some.inj h).symm⟩
  · rw [List.getElem?_append_right (by omega), ht, show j - i = (j - i - 1) + 1 by omega, List.getElem?_cons_succ, List.getElem?_drop, show i + 1 + (j - i - 1) = j by omega] at h
    exact Or.inr ⟨by omega, h⟩
theorem zL.store {ls ls' : Array Slot} {nL i : Nat} {l : List Value} {v : Value} (h : zL ls nL l) (hi : i ≤ l.length) (hc : v.category = 1) (h' : lv_has ls' nL ((i, v) :: (zzip l).filter (fun q => !(q.1 == i) && !(q.1 + 1 == i && q.2.category == 2)))) : zL ls' nL (zset l i v) := by
  refine ⟨h'.1, h'.2.1, fun j w hj => ?_⟩
  rcases zset_get hi hj with ⟨rfl, rfl⟩ | ⟨hne, hl⟩
  · exact ⟨h'.2.2 (j, w) List.mem_cons_self, hc⟩
  · have hw := (h.2.2 j w hl).2
    refine ⟨h'.2.2 (j, w) (List.mem_cons_of_mem _ (List.mem_filter.mpr ⟨zzip_mem.mpr hl, ?_⟩)), hw⟩
    simp [hne, hw]
theorem zL.pre {ls : Array Slot} {nL : Nat} {l : List Value} (h : zL ls nL l) (n : Nat) : zL ls nL (l.take n) := by
  refine ⟨h.1, h.2.1, fun i v hi => ?_⟩
  rw [List.getElem?_take] at hi
  by_cases q : i < n
  · rw [if_pos q] at hi; exact h.2.2 i v hi
  · rw [if_neg q] at hi; cases hi
theorem zargs_mem : ∀ (vs : List Value) (i : Nat), (∀ v ∈ vs, v.category = 1) → ∀ (j : Nat) (v : Value), vs[j]? = some v → (i + j, v) ∈ lv_args i vs
  | [], _, _, _, _, h => by simp at h
  | w :: vs, i, hc, j, v, h => by
    have hw : ¬ w.category = 2 := by rw [hc w List.mem_cons_self]; decide
    rw [lv_args, if_neg hw]
    cases j with
    | zero => rw [List.getElem?_cons_zero] at h; cases h; exact List.mem_cons_self
    | succ j =>
      rw [List.getElem?_cons_succ] at h
      have := zargs_mem vs (i + 1) (fun v hv => hc v (List.mem_cons_of_mem _ hv)) j v h
      rw [show i + 1 + j = i + (j + 1) by omega] at this
      exact List.mem_cons_of_mem _ this
theorem zsl_len : ∀ (vs : List Value), (∀ v ∈ vs, v.category = 1) → (lg_sl vs).length = vs.length
  | [], _ => rfl
  | w :: vs, hc => by
    have hw : ¬ w.category = 2 := by rw [hc w List.mem_cons_self]; decide
    have := zsl_len vs (fun v hv => hc v (List.mem_cons_of_mem _ hv))
    show ((if w.category = 2 then _ else _) ++ lg_sl vs).length = _
    rw [if_neg hw, List.length_append, this]
    simp; omega
/-- all of the machine's context -/
abbrev zX : Type := Program × Launch × Env × Room × State × MethodId × Array Value × List Frame × Method × Code × zG × (Nat → Prop) × Nat × (State → Prop)
def Z (X : zX) (pc : Nat) (l st : List Value) (h : zH) (k n : Nat) : Prop := match X with
  | (p, ln, e, R, s, m, args, below, meth, c, G, A, nL, Q) => ∀ (H : Heap) (locs : List Loc) (ls : Array Slot), zHold G.1 h H → va_S A s.heap H locs → (∀ q, h q ≠ none → A q) → zL ls nL l → W p ln e R s m args below meth c H locs k n Q (F0 m pc ls st)
def ZC (X : zX) (cc : ByteArray) (y : MethodName) (d : Nat) : Prop := match X with
  | (p, ln, _, R, s, m, args, _, meth, c, G, A, nL, _) => p.tables.exec = Jvm.exec ∧ c.code = cc ∧ c.maxLocals = nL ∧ s.vm.findClass y.cls = some m.cls ∧ (∀ w ∈ zW, w.before args s = true) ∧ zK G s ∧ zBG G A s s.heap ∧ (∀ q, s.heap.size ≤ q → A q) ∧ meth.locks = false ∧ meth.name = y.name ∧ d ≤ R.frames ∧ 38 * d ≤ R.locals ∧ ln.stackTraces = false
/-- where q is thrown over the method's frame -/
def ZT (X : zX) (pc : Nat) (l st : List Value) (h : zH) (k n : Nat) (E : String) : Prop := match X with
  | (p, ln, e, R, s, m, args, below, meth, c, G, A, nL, Q) => ∀ (H : Heap) (locs : List Loc) (ls : Array Slot) (q9 : Nat) (ce : Cell), zHold G.1 h H → va_S A s.heap H locs → (∀ q, h q ≠ none → A q) → zL ls nL l → H[q9]? = some ce → ce.vm = .none → s.vm.findClass E = some ce.cls → vx_W p ln e R s m args below meth c H locs k n Q (F0 m pc ls st) q9
def zG_of (X : zX) : zG := X.2.2.2.2.2.2.2.2.2.2.1
def zR_of (X : zX) : Room := X.2.2.2.1
/-- contracts -/
def zPc (G : zG) (h : zH) (sz : Nat) (as : List Value) : Array Value → State → Prop := fun v U => v = as.toArray ∧ U.heap.size = sz ∧ zHold G.1 h U.heap ∧ zK G U ∧ zBG G (zA h sz) U U.heap
def zQc (G : zG) (A : Nat → Prop) (Qf : Option Value → zH → Prop) : Array Value → State → Outcome → State → Prop := fun _ st o t => ∃ (v : Option Value) (h' : zH), o = .returned v ∧ Qf v h' ∧ zHold G.1 h' t.heap ∧ va_F A st t ∧ ∀ q, h' q ≠ none → A q
def zXc (G : zG) (A : Nat → Prop) (Xf : String → zH → Prop) : String → State → State → Prop := fun E st t => ∃ h' : zH, Xf E h' ∧ zHold G.1 h' t.heap ∧ va_F A st t ∧ ∀ q, h' q ≠ none → A q
def zRm (d mc ms : Nat) : Room := { frames := d, cells := mc, slots := ms, locals := 38 * d }
def zEnd (X : zX) (ret : Option FieldType) (mc ms : Nat) (Qf : Option Value → zH → Prop) (Xf : String → zH → Prop) : Prop := match X with
  | (_, _, _, _, s, _, args, below, meth, c, G, A, _, Q) => Q = vx_MQ below (zQc G A Qf) (zXc G A Xf) args s mc ms A ∧ meth.sig.returnType = ret ∧ ∀ x ∈ c.exceptionTable.toList, False
def CT (ln : Launch) (G : zG) (y : MethodName) (cc : ByteArray) (maxL : Nat) (ret : Option FieldType) (d : Nat) (as : List Value) (h : zH) (mc ms : Nat) (Qf : Option Value → zH → Prop) (Xf : String → zH → Prop) : Prop :=
  ∀ sz : Nat, vx_Met ln y (Cond.code y cc maxL ret :: zW) (zRm d mc ms) (zPc G h sz as) (zQc G (zA h sz) Qf) (zXc G (zA h sz) Xf) mc ms (zA h sz)
end
section
def zN (X : zX) : Nat := X.2.2.2.2.2.2.2.2.2.2.2.2.1

section ZR
variable {X : zX} {cc : ByteArray} {y : MethodName} {d : Nat} {pc : Nat} {l st : List Value} {h : zH} {k n : Nat}

theorem Z.iconst (C : ZC X cc y d) {i : Int} (hd : decode cc pc = .ok (.iconst i, 1)) (kk : Z X (pc + 1) l (vI i :: st) h k n) : Z X pc l st h k n := by
  obtain ⟨p, ln, e, R, s, m, args, below, meth, c, G, A, nL, Q⟩ := X
  obtain ⟨hx, hb, hml, hown, hts, hK, hBG, hA, hlk, hnm, hfr, hlo, htr⟩ := C
  intro H locs ls hP hS hdom hl
  exact lv_iconst hx hb hd rfl (kk H locs ls hP hS hdom hl)

theorem Z.bipush (C : ZC X cc y d) {i : Int} (hd : decode cc pc = .ok (.bipush i, 2)) (hv : (Int8.ofInt i).toInt32 = jI i) (kk : Z X (pc + 2) l (vI i :: st) h k n) : Z X pc l st h k n := by
  obtain ⟨p, ln, e, R, s, m, args, below, meth, c, G, A, nL, Q⟩ := X
  obtain ⟨hx, hb, hml, hown, hts, hK, hBG, hA, hlk, hnm, hfr, hlo, htr⟩ := C
  intro H locs ls hP hS hdom hl
  exact lv_bipush hx hb hd hv (kk H locs ls hP hS hdom hl)

theorem Z.sipush (C : ZC X cc y d) {i : Int} (hd : decode cc pc = .ok (.sipush i, 3)) (hv : (Int16.ofInt i).toInt32 = jI i) (kk : Z X (pc + 3) l (vI i :: st) h k n) : Z X pc l st h k n := by
  obtain ⟨p, ln, e, R, s, m, args, below, meth, c, G, A, nL, Q⟩ := X
  obtain ⟨hx, hb, hml, hown, hts, hK, hBG, hA, hlk, hnm, hfr, hlo, htr⟩ := C
  intro H locs ls hP hS hdom hl
  exact lv_sipush hx hb hd hv (kk H locs ls hP hS hdom hl)

theorem Z.iload_n (C : ZC X cc y d) {i : Fin 4} {x : Int} (hd : decode cc pc = .ok (.iload_n i, 1)) (hv : l[(i : Nat)]? = some (vI x)) (kk : Z X (pc + 1) l (vI x :: st) h k n) : Z X pc l st h k n := by
  obtain ⟨p, ln, e, R, s, m, args, below, meth, c, G, A, nL, Q⟩ := X
  obtain ⟨hx, hb, hml, hown, hts, hK, hBG, hA, hlk, hnm, hfr, hlo, htr⟩ := C
  intro H locs ls hP hS hdom hl
  exact lv_iload_n hx hb hd rfl (hl.2.2 _ _ hv).1 (kk H locs ls hP hS hdom hl)

theorem Z.iload (C : ZC X cc y d) {i : Nat} {x : Int} (hd : decode cc pc = .ok (.iload i, 2)) (hv : l[i]? = some (vI x)) (kk : Z X (pc + 2) l (vI x :: st) h k n) : Z X pc l st h k n := by
  obtain ⟨p, ln, e, R, s, m, args, below, meth, c, G, A, nL, Q⟩ := X
  obtain ⟨hx, hb, hml, hown, hts, hK, hBG, hA, hlk, hnm, hfr, hlo, htr⟩ := C
  intro H locs ls hP hS hdom hl
  exact lv_iload hx hb hd (hl.2.2 _ _ hv).1 (kk H locs ls hP hS hdom hl)

theorem Z.aload_n (C : ZC X cc y d) {i : Fin 4} {x : Nat} (hd : decode cc pc = .ok (.aload_n i, 1)) (hv : l[(i : Nat)]? = some (.ref x)) (kk : Z X (pc + 1) l (.ref x :: st) h k n) : Z X pc l st h k n := by
  obtain ⟨p, ln, e, R, s, m, args, below, meth, c, G, A, nL, Q⟩ := X
  obtain ⟨hx, hb, hml, hown, hts, hK, hBG, hA, hlk, hnm, hfr, hlo, htr⟩ := C
  intro H locs ls hP hS hdom hl
  exact lv_aload_n hx hb hd rfl (hl.2.2 _ _ hv).1 (kk H locs ls hP hS hdom hl)

theorem Z.aload (C : ZC X cc y d) {i : Nat} {x : Nat} (hd : decode cc pc = .ok (.aload i, 2)) (hv : l[i]? = some (.ref x)) (kk : Z X (pc + 2) l (.ref x :: st) h k n) : Z X pc l st h k n := by
  obtain ⟨p, ln, e, R, s, m, args, below, meth, c, G, A, nL, Q⟩ := X
  obtain ⟨hx, hb, hml, hown, hts, hK, hBG, hA, hlk, hnm, hfr, hlo, htr⟩ := C
  intro H locs ls hP hS hdom hl
  exact lv_aload hx hb hd (hl.2.2 _ _ hv).1 (kk H locs ls hP hS hdom hl)

theorem Z.istore_n (C : ZC X cc y d) {i : Fin 4} {x : Int} (hd : decode cc pc = .ok (.istore_n i, 1)) (hi : (i : Nat) ≤ l.length) (hn : (i : Nat) < zN X) {l' : List Value} (hl' : zset l (i : Nat) (vI x) = l') (kk : Z X (pc + 1) l' st h k n) : Z X pc l ((vI x) :: st) h k n := by
  subst hl'
  obtain ⟨p, ln, e, R, s, m, args, below, meth, c, G, A, nL, Q⟩ := X
  obtain ⟨hx, hb, hml, hown, hts, hK, hBG, hA, hlk, hnm, hfr, hlo, htr⟩ := C
  intro H locs ls hP hS hdom hl
  have hn' : (i : Nat) < nL := hn
  exact lv_istore_n hx hb hd rfl hl.has hn' rfl (fun ls1 h1 => kk H locs ls1 hP hS hdom (hl.store hi rfl h1))

theorem Z.istore (C : ZC X cc y d) {i : Nat} {x : Int} (hd : decode cc pc = .ok (.istore i, 2)) (hi : i ≤ l.length) (hn : i < zN X) {l' : List Value} (hl' : zset l i (vI x) = l') (kk : Z X (pc + 2) l' st h k n) : Z X pc l ((vI x) :: st) h k n := by
  subst hl'
  obtain ⟨p, ln, e, R, s, m, args, below, meth, c, G, A, nL, Q⟩ := X
  obtain ⟨hx, hb, hml, hown, hts, hK, hBG, hA, hlk, hnm, hfr, hlo, htr⟩ := C
  intro H locs ls hP hS hdom hl
  have hn' : i < nL := hn
  exact lv_istore hx hb hd hl.has hn' rfl (fun ls1 h1 => kk H locs ls1 hP hS hdom (hl.store hi rfl h1))

theorem Z.astore_n (C : ZC X cc y d) {i : Fin 4} {x : Nat} (hd : decode cc pc = .ok (.astore_n i, 1)) (hi : (i : Nat) ≤ l.length) (hn : (i : Nat) < zN X) {l' : List Value} (hl' : zset l (i : Nat) (Value.ref x) = l') (kk : Z X (pc + 1) l' st h k n) : Z X pc l ((Value.ref x) :: st) h k n := by
  subst hl'
  obtain ⟨p, ln, e, R, s, m, args, below, meth, c, G, A, nL, Q⟩ := X
  obtain ⟨hx, hb, hml, hown, hts, hK, hBG, hA, hlk, hnm, hfr, hlo, htr⟩ := C
  intro H locs ls hP hS hdom hl
  have hn' : (i : Nat) < nL := hn
  exact lv_astore_n hx hb hd rfl hl.has hn' rfl (fun ls1 h1 => kk H locs ls1 hP hS hdom (hl.store hi rfl h1))

theorem Z.astore (C : ZC X cc y d) {i : Nat} {x : Nat} (hd : decode cc pc = .ok (.astore i, 2)) (hi : i ≤ l.length) (hn : i < zN X) {l' : List Value} (hl' : zset l i (Value.ref x) = l') (kk : Z X (pc + 2) l' st h k n) : Z X pc l ((Value.ref x) :: st) h k n := by
  subst hl'
  obtain ⟨p, ln, e, R, s, m, args, below, meth, c, G, A, nL, Q⟩ := X
  obtain ⟨hx, hb, hml, hown, hts, hK, hBG, hA, hlk, hnm, hfr, hlo, htr⟩ := C
  intro H locs ls hP hS hdom hl
  have hn' : i < nL := hn
  exact lv_astore hx hb hd hl.has hn' rfl (fun ls1 h1 => kk H locs ls1 hP hS hdom (hl.store hi rfl h1))

theorem jI_add (a b : Int) : jI a + jI b = jI (a + b) := (Int32.ofInt_add a b).symm
theorem jI_sub (a b : Int) : jI a - jI b = jI (a - b) := (Int32.ofInt_sub a b).symm
theorem jI_mul (a b : Int) : jI a * jI b = jI (a * b) := (Int32.ofInt_mul a b).symm
theorem jI_neg (a : Int) : - jI a = jI (-a) := (Int32.ofInt_neg a).symm
theorem jI_toInt {a : Int} (h1 : -2147483648 ≤ a) (h2 : a < 2147483648) : (jI a).toInt = a := Int32.toInt_ofInt_of_le h1 h2
theorem jI_lt {a b : Int} (a1 : -2147483648 ≤ a) (a2 : a < 2147483648) (b1 : -2147483648 ≤ b) (b2 : b < 2147483648) : jI a < jI b ↔ a < b := by rw [Int32.lt_iff_toInt_lt, jI_toInt a1 a2, jI_toInt b1 b2]
theorem jI_le {a b : Int} (a1 : -2147483648 ≤ a) (a2 : a < 2147483648) (b1 : -2147483648 ≤ b) (b2 : b < 2147483648) : jI a ≤ jI b ↔ a ≤ b := by rw [Int32.le_iff_toInt_le, jI_toInt a1 a2, jI_toInt b1 b2]
theorem jI_eq {a b : Int} (a1 : -2147483648 ≤ a) (a2 : a < 2147483648) (b1 : -2147483648 ≤ b) (b2 : b < 2147483648) : jI a = jI b ↔ a = b := by rw [← Int32.toInt_inj, jI_toInt a1 a2, jI_toInt b1 b2]
theorem jI_nat (n : Nat) : jI (n : Int) = Int32.ofNat n := by
  apply Int32.toBitVec.inj
  simp [jI]
theorem jI_clamp {a : Int} (h1 : 0 ≤ a) (h2 : a < 2147483648) : (jI a).toNatClampNeg = a.toNat := by
  show (jI a).toInt.toNat = _
  rw [jI_toInt (by omega) h2]
theorem jI_in {a : Int} {n : Nat} (h1 : 0 ≤ a) (h2 : a < n) (hn : n < 2147483648) : vp_in (jI a) n := by
  rw [vp_in_iff, jI_toInt (by omega) (by omega)]
  exact ⟨h1, h2⟩
theorem Z.iinc (C : ZC X cc y d) {i : Nat} {v x : Int} (hd : decode cc pc = .ok (.iinc i v, 3)) (hv : l[i]? = some (vI x)) (hi : i ≤ l.length) (hn : i < zN X) {l' : List Value} (hl' : zset l i (vI (x + v)) = l') (kk : Z X (pc + 3) l' st h k n) : Z X pc l st h k n := by
  subst hl'
  obtain ⟨p, ln, e, R, s, m, args, below, meth, c, G, A, nL, Q⟩ := X
  obtain ⟨hx, hb, hml, hown, hts, hK, hBG, hA, hlk, hnm, hfr, hlo, htr⟩ := C
  intro H locs ls hP hS hdom hl
  have hn' : i < nL := hn
  obtain ⟨j, hj⟩ := List.getElem?_of_mem (zzip_mem.mpr (show l[((i, vI x) : Nat × Value).1]? = some ((i, vI x) : Nat × Value).2 from hv))
  exact lv_iinc (v := jI (x + v)) hx hb hd hl.has hj (jI_add x v) hn' rfl (fun ls1 h1 => kk H locs ls1 hP hS hdom (hl.store hi rfl h1))

theorem Z.iadd (C : ZC X cc y d) {x y2 : Int} (hd : decode cc pc = .ok (.iadd, 1)) (kk : Z X (pc + 1) l (vI (x + y2) :: st) h k n) : Z X pc l (vI y2 :: vI x :: st) h k n := by
  obtain ⟨p, ln, e, R, s, m, args, below, meth, c, G, A, nL, Q⟩ := X
  obtain ⟨hx, hb, hml, hown, hts, hK, hBG, hA, hlk, hnm, hfr, hlo, htr⟩ := C
  intro H locs ls hP hS hdom hl
  refine lv_iadd hx hb hd ?_
  have q := kk H locs ls hP hS hdom hl
  unfold vI at q
  rw [← jI_add] at q
  exact q

theorem Z.isub (C : ZC X cc y d) {x y2 : Int} (hd : decode cc pc = .ok (.isub, 1)) (kk : Z X (pc + 1) l (vI (x - y2) :: st) h k n) : Z X pc l (vI y2 :: vI x :: st) h k n := by
  obtain ⟨p, ln, e, R, s, m, args, below, meth, c, G, A, nL, Q⟩ := X
  obtain ⟨hx, hb, hml, hown, hts, hK, hBG, hA, hlk, hnm, hfr, hlo, htr⟩ := C
  intro H locs ls hP hS hdom hl
  refine lv_isub hx hb hd ?_
  have q := kk H locs ls hP hS hdom hl
  unfold vI at q
  rw [← jI_sub] at q
  exact q

theorem Z.imul (C : ZC X cc y d) {x y2 : Int} (hd : decode cc pc = .ok (.imul, 1)) (kk : Z X (pc + 1) l (vI (x * y2) :: st) h k n) : Z X pc l (vI y2 :: vI x :: st) h k n := by
  obtain ⟨p, ln, e, R, s, m, args, below, meth, c, G, A, nL, Q⟩ := X
  obtain ⟨hx, hb, hml, hown, hts, hK, hBG, hA, hlk, hnm, hfr, hlo, htr⟩ := C
  intro H locs ls hP hS hdom hl
  refine lv_imul hx hb hd ?_
  have q := kk H locs ls hP hS hdom hl
  unfold vI at q
  rw [← jI_mul] at q
  exact q

theorem Z.ineg (C : ZC X cc y d) {x : Int} (hd : decode cc pc = .ok (.ineg, 1)) (kk : Z X (pc + 1) l (vI (-x) :: st) h k n) : Z X pc l (vI x :: st) h k n := by
  obtain ⟨p, ln, e, R, s, m, args, below, meth, c, G, A, nL, Q⟩ := X
  obtain ⟨hx, hb, hml, hown, hts, hK, hBG, hA, hlk, hnm, hfr, hlo, htr⟩ := C
  intro H locs ls hP hS hdom hl
  refine lv_ineg hx hb hd ?_
  have q := kk H locs ls hP hS hdom hl
  unfold vI at q
  rw [← jI_neg] at q
  exact q

theorem Z.ishr (C : ZC X cc y d) {x y2 z : Int} (hd : decode cc pc = .ok (.ishr, 1)) (hv : jI x >>> (jI y2 &&& 31) = jI z) (kk : Z X (pc + 1) l (vI z :: st) h k n) : Z X pc l (vI y2 :: vI x :: st) h k n := by
  obtain ⟨p, ln, e, R, s, m, args, below, meth, c, G, A, nL, Q⟩ := X
  obtain ⟨hx, hb, hml, hown, hts, hK, hBG, hA, hlk, hnm, hfr, hlo, htr⟩ := C
  intro H locs ls hP hS hdom hl
  refine lv_ishr hx hb hd ?_
  have q := kk H locs ls hP hS hdom hl
  unfold vI at q
  rw [← hv] at q
  exact q

theorem Z.ishl (C : ZC X cc y d) {x y2 z : Int} (hd : decode cc pc = .ok (.ishl, 1)) (hv : jI x <<< (jI y2 &&& 31) = jI z) (kk : Z X (pc + 1) l (vI z :: st) h k n) : Z X pc l (vI y2 :: vI x :: st) h k n := by
  obtain ⟨p, ln, e, R, s, m, args, below, meth, c, G, A, nL, Q⟩ := X
  obtain ⟨hx, hb, hml, hown, hts, hK, hBG, hA, hlk, hnm, hfr, hlo, htr⟩ := C
  intro H locs ls hP hS hdom hl
  refine lv_ishl hx hb hd ?_
  have q := kk H locs ls hP hS hdom hl
  unfold vI at q
  rw [← hv] at q
  exact q

theorem Z.iand (C : ZC X cc y d) {x y2 z : Int} (hd : decode cc pc = .ok (.iand, 1)) (hv : jI x &&& jI y2 = jI z) (kk : Z X (pc + 1) l (vI z :: st) h k n) : Z X pc l (vI y2 :: vI x :: st) h k n := by
  obtain ⟨p, ln, e, R, s, m, args, below, meth, c, G, A, nL, Q⟩ := X
  obtain ⟨hx, hb, hml, hown, hts, hK, hBG, hA, hlk, hnm, hfr, hlo, htr⟩ := C
  intro H locs ls hP hS hdom hl
  refine lv_iand hx hb hd ?_
  have q := kk H locs ls hP hS hdom hl
  unfold vI at q
  rw [← hv] at q
  exact q

theorem Z.ior (C : ZC X cc y d) {x y2 z : Int} (hd : decode cc pc = .ok (.ior, 1)) (hv : jI x ||| jI y2 = jI z) (kk : Z X (pc + 1) l (vI z :: st) h k n) : Z X pc l (vI y2 :: vI x :: st) h k n := by
  obtain ⟨p, ln, e, R, s, m, args, below, meth, c, G, A, nL, Q⟩ := X
  obtain ⟨hx, hb, hml, hown, hts, hK, hBG, hA, hlk, hnm, hfr, hlo, htr⟩ := C
  intro H locs ls hP hS hdom hl
  refine lv_ior hx hb hd ?_
  have q := kk H locs ls hP hS hdom hl
  unfold vI at q
  rw [← hv] at q
  exact q

theorem Z.idiv (C : ZC X cc y d) {x y2 z : Int} (hd : decode cc pc = .ok (.idiv, 1)) (hz : ¬ jI y2 = 0) (hv : jI x / jI y2 = jI z) (kk : Z X (pc + 1) l (vI z :: st) h k n) : Z X pc l (vI y2 :: vI x :: st) h k n := by
  obtain ⟨p, ln, e, R, s, m, args, below, meth, c, G, A, nL, Q⟩ := X
  obtain ⟨hx, hb, hml, hown, hts, hK, hBG, hA, hlk, hnm, hfr, hlo, htr⟩ := C
  intro H locs ls hP hS hdom hl
  refine lv_idiv hx hb hd hz ?_
  have q := kk H locs ls hP hS hdom hl
  unfold vI at q
  rw [← hv] at q
  exact q

theorem Z.irem (C : ZC X cc y d) {x y2 z : Int} (hd : decode cc pc = .ok (.irem, 1)) (hz : ¬ jI y2 = 0) (hv : jI x - jI x / jI y2 * jI y2 = jI z) (kk : Z X (pc + 1) l (vI z :: st) h k n) : Z X pc l (vI y2 :: vI x :: st) h k n := by
  obtain ⟨p, ln, e, R, s, m, args, below, meth, c, G, A, nL, Q⟩ := X
  obtain ⟨hx, hb, hml, hown, hts, hK, hBG, hA, hlk, hnm, hfr, hlo, htr⟩ := C
  intro H locs ls hP hS hdom hl
  refine lv_irem hx hb hd hz ?_
  have q := kk H locs ls hP hS hdom hl
  unfold vI at q
  rw [← hv] at q
  exact q

theorem Z.i2c (C : ZC X cc y d) {x : Int} (hd : decode cc pc = .ok (.i2c, 1)) (h1 : 0 ≤ x) (h2 : x < 65536) (kk : Z X (pc + 1) l (vI x :: st) h k n) : Z X pc l (vI x :: st) h k n := by
  obtain ⟨p, ln, e, R, s, m, args, below, meth, c, G, A, nL, Q⟩ := X
  obtain ⟨hx, hb, hml, hown, hts, hK, hBG, hA, hlk, hnm, hfr, hlo, htr⟩ := C
  intro H locs ls hP hS hdom hl
  refine lv_i2c hx hb hd ?_ (kk H locs ls hP hS hdom hl)
  obtain ⟨q, rfl⟩ := Int.eq_ofNat_of_zero_le h1
  have q9 : jI (q : Int) = nI q := jI_nat q
  rw [q9, pk_char]
  congr 1
  rw [pk_tn (by omega)]
  omega

theorem Z.icmp_eq (C : ZC X cc y d) {x y2 : Int} {off : Int} {tgt : Nat} (hd : decode cc pc = .ok (.if_icmp .eq off, 3)) (ht : (pc : Int) + off = (tgt : Int)) (a1 : -2147483648 ≤ x) (a2 : x < 2147483648) (b1 : -2147483648 ≤ y2) (b2 : y2 < 2147483648) (kt : x = y2 → Z X tgt l st h k n) (kf : ¬ x = y2 → Z X (pc + 3) l st h k n) : Z X pc l (vI y2 :: vI x :: st) h k n := by
  obtain ⟨p, ln, e, R, s, m, args, below, meth, c, G, A, nL, Q⟩ := X
  obtain ⟨hx, hb, hml, hown, hts, hK, hBG, hA, hlk, hnm, hfr, hlo, htr⟩ := C
  intro H locs ls hP hS hdom hl
  exact lv_icmp_eq hx hb hd ht (fun q => kt ((jI_eq a1 a2 b1 b2).mp q) H locs ls hP hS hdom hl) (fun q => kf (fun z => q ((jI_eq a1 a2 b1 b2).mpr z)) H locs ls hP hS hdom hl)

theorem Z.icmp_ne (C : ZC X cc y d) {x y2 : Int} {off : Int} {tgt : Nat} (hd : decode cc pc = .ok (.if_icmp .ne off, 3)) (ht : (pc : Int) + off = (tgt : Int)) (a1 : -2147483648 ≤ x) (a2 : x < 2147483648) (b1 : -2147483648 ≤ y2) (b2 : y2 < 2147483648) (kt : ¬ x = y2 → Z X tgt l st h k n) (kf : x = y2 → Z X (pc + 3) l st h k n) : Z X pc l (vI y2 :: vI x :: st) h k n := by
  obtain ⟨p, ln, e, R, s, m, args, below, meth, c, G, A, nL, Q⟩ := X
  obtain ⟨hx, hb, hml, hown, hts, hK, hBG, hA, hlk, hnm, hfr, hlo, htr⟩ := C
  intro H locs ls hP hS hdom hl
  exact lv_icmp_ne hx hb hd ht (fun q => kt (fun z => q ((jI_eq a1 a2 b1 b2).mpr z)) H locs ls hP hS hdom hl) (fun q => kf ((jI_eq a1 a2 b1 b2).mp q) H locs ls hP hS hdom hl)

theorem Z.icmp_lt (C : ZC X cc y d) {x y2 : Int} {off : Int} {tgt : Nat} (hd : decode cc pc = .ok (.if_icmp .lt off, 3)) (ht : (pc : Int) + off = (tgt : Int)) (a1 : -2147483648 ≤ x) (a2 : x < 2147483648) (b1 : -2147483648 ≤ y2) (b2 : y2 < 2147483648) (kt : x < y2 → Z X tgt l st h k n) (kf : ¬ x < y2 → Z X (pc + 3) l st h k n) : Z X pc l (vI y2 :: vI x :: st) h k n := by
  obtain ⟨p, ln, e, R, s, m, args, below, meth, c, G, A, nL, Q⟩ := X
  obtain ⟨hx, hb, hml, hown, hts, hK, hBG, hA, hlk, hnm, hfr, hlo, htr⟩ := C
  intro H locs ls hP hS hdom hl
  exact lv_icmp_lt hx hb hd ht (fun q => kt ((jI_lt a1 a2 b1 b2).mp q) H locs ls hP hS hdom hl) (fun q => kf (fun z => q ((jI_lt a1 a2 b1 b2).mpr z)) H locs ls hP hS hdom hl)

theorem Z.icmp_ge (C : ZC X cc y d) {x y2 : Int} {off : Int} {tgt : Nat} (hd : decode cc pc = .ok (.if_icmp .ge off, 3)) (ht : (pc : Int) + off = (tgt : Int)) (a1 : -2147483648 ≤ x) (a2 : x < 2147483648) (b1 : -2147483648 ≤ y2) (b2 : y2 < 2147483648) (kt : y2 ≤ x → Z X tgt l st h k n) (kf : ¬ y2 ≤ x → Z X (pc + 3) l st h k n) : Z X pc l (vI y2 :: vI x :: st) h k n := by
  obtain ⟨p, ln, e, R, s, m, args, below, meth, c, G, A, nL, Q⟩ := X
  obtain ⟨hx, hb, hml, hown, hts, hK, hBG, hA, hlk, hnm, hfr, hlo, htr⟩ := C
  intro H locs ls hP hS hdom hl
  exact lv_icmp_ge hx hb hd ht (fun q => kt ((jI_le b1 b2 a1 a2).mp q) H locs ls hP hS hdom hl) (fun q => kf (fun z => q ((jI_le b1 b2 a1 a2).mpr z)) H locs ls hP hS hdom hl)

theorem Z.icmp_gt (C : ZC X cc y d) {x y2 : Int} {off : Int} {tgt : Nat} (hd : decode cc pc = .ok (.if_icmp .gt off, 3)) (ht : (pc : Int) + off = (tgt : Int)) (a1 : -2147483648 ≤ x) (a2 : x < 2147483648) (b1 : -2147483648 ≤ y2) (b2 : y2 < 2147483648) (kt : y2 < x → Z X tgt l st h k n) (kf : ¬ y2 < x → Z X (pc + 3) l st h k n) : Z X pc l (vI y2 :: vI x :: st) h k n := by
  obtain ⟨p, ln, e, R, s, m, args, below, meth, c, G, A, nL, Q⟩ := X
  obtain ⟨hx, hb, hml, hown, hts, hK, hBG, hA, hlk, hnm, hfr, hlo, htr⟩ := C
  intro H locs ls hP hS hdom hl
  exact lv_icmp_gt hx hb hd ht (fun q => kt ((jI_lt b1 b2 a1 a2).mp q) H locs ls hP hS hdom hl) (fun q => kf (fun z => q ((jI_lt b1 b2 a1 a2).mpr z)) H locs ls hP hS hdom hl)

theorem Z.icmp_le (C : ZC X cc y d) {x y2 : Int} {off : Int} {tgt : Nat} (hd : decode cc pc = .ok (.if_icmp .le off, 3)) (ht : (pc : Int) + off = (tgt : Int)) (a1 : -2147483648 ≤ x) (a2 : x < 2147483648) (b1 : -2147483648 ≤ y2) (b2 : y2 < 2147483648) (kt : x ≤ y2 → Z X tgt l st h k n) (kf : ¬ x ≤ y2 → Z X (pc + 3) l st h k n) : Z X pc l (vI y2 :: vI x :: st) h k n := by
  obtain ⟨p, ln, e, R, s, m, args, below, meth, c, G, A, nL, Q⟩ := X
  obtain ⟨hx, hb, hml, hown, hts, hK, hBG, hA, hlk, hnm, hfr, hlo, htr⟩ := C
  intro H locs ls hP hS hdom hl
  exact lv_icmp_le hx hb hd ht (fun q => kt ((jI_le a1 a2 b1 b2).mp q) H locs ls hP hS hdom hl) (fun q => kf (fun z => q ((jI_le a1 a2 b1 b2).mpr z)) H locs ls hP hS hdom hl)

theorem Z.if_eq (C : ZC X cc y d) {x : Int} {off : Int} {tgt : Nat} (hd : decode cc pc = .ok (.ifCond .eq off, 3)) (ht : (pc : Int) + off = (tgt : Int)) (a1 : -2147483648 ≤ x) (a2 : x < 2147483648) (kt : x = 0 → Z X tgt l st h k n) (kf : ¬ x = 0 → Z X (pc + 3) l st h k n) : Z X pc l (vI x :: st) h k n := by
  obtain ⟨p, ln, e, R, s, m, args, below, meth, c, G, A, nL, Q⟩ := X
  obtain ⟨hx, hb, hml, hown, hts, hK, hBG, hA, hlk, hnm, hfr, hlo, htr⟩ := C
  intro H locs ls hP hS hdom hl
  exact lv_if_eq hx hb hd ht (fun q => kt ((jI_eq a1 a2 (b := 0) (by decide) (by decide)).mp q) H locs ls hP hS hdom hl) (fun q => kf (fun z => q ((jI_eq a1 a2 (b := 0) (by decide) (by decide)).mpr z)) H locs ls hP hS hdom hl)

theorem Z.if_ne (C : ZC X cc y d) {x : Int} {off : Int} {tgt : Nat} (hd : decode cc pc = .ok (.ifCond .ne off, 3)) (ht : (pc : Int) + off = (tgt : Int)) (a1 : -2147483648 ≤ x) (a2 : x < 2147483648) (kt : ¬ x = 0 → Z X tgt l st h k n) (kf : x = 0 → Z X (pc + 3) l st h k n) : Z X pc l (vI x :: st) h k n := by
  obtain ⟨p, ln, e, R, s, m, args, below, meth, c, G, A, nL, Q⟩ := X
  obtain ⟨hx, hb, hml, hown, hts, hK, hBG, hA, hlk, hnm, hfr, hlo, htr⟩ := C
  intro H locs ls hP hS hdom hl
  exact lv_if_ne hx hb hd ht (fun q => kt (fun z => q ((jI_eq a1 a2 (b := 0) (by decide) (by decide)).mpr z)) H locs ls hP hS hdom hl) (fun q => kf ((jI_eq a1 a2 (b := 0) (by decide) (by decide)).mp q) H locs ls hP hS hdom hl)

theorem Z.if_lt (C : ZC X cc y d) {x : Int} {off : Int} {tgt : Nat} (hd : decode cc pc = .ok (.ifCond .lt off, 3)) (ht : (pc : Int) + off = (tgt : Int)) (a1 : -2147483648 ≤ x) (a2 : x < 2147483648) (kt : x < 0 → Z X tgt l st h k n) (kf : ¬ x < 0 → Z X (pc + 3) l st h k n) : Z X pc l (vI x :: st) h k n := by
  obtain ⟨p, ln, e, R, s, m, args, below, meth, c, G, A, nL, Q⟩ := X
  obtain ⟨hx, hb, hml, hown, hts, hK, hBG, hA, hlk, hnm, hfr, hlo, htr⟩ := C
  intro H locs ls hP hS hdom hl
  exact lv_if_lt hx hb hd ht (fun q => kt ((jI_lt a1 a2 (b := 0) (by decide) (by decide)).mp q) H locs ls hP hS hdom hl) (fun q => kf (fun z => q ((jI_lt a1 a2 (b := 0) (by decide) (by decide)).mpr z)) H locs ls hP hS hdom hl)

theorem Z.if_ge (C : ZC X cc y d) {x : Int} {off : Int} {tgt : Nat} (hd : decode cc pc = .ok (.ifCond .ge off, 3)) (ht : (pc : Int) + off = (tgt : Int)) (a1 : -2147483648 ≤ x) (a2 : x < 2147483648) (kt : 0 ≤ x → Z X tgt l st h k n) (kf : ¬ 0 ≤ x → Z X (pc + 3) l st h k n) : Z X pc l (vI x :: st) h k n := by
  obtain ⟨p, ln, e, R, s, m, args, below, meth, c, G, A, nL, Q⟩ := X
  obtain ⟨hx, hb, hml, hown, hts, hK, hBG, hA, hlk, hnm, hfr, hlo, htr⟩ := C
  intro H locs ls hP hS hdom hl
  exact lv_if_ge hx hb hd ht (fun q => kt ((jI_le (a := 0) (by decide) (by decide) a1 a2).mp q) H locs ls hP hS hdom hl) (fun q => kf (fun z => q ((jI_le (a := 0) (by decide) (by decide) a1 a2).mpr z)) H locs ls hP hS hdom hl)

theorem Z.if_gt (C : ZC X cc y d) {x : Int} {off : Int} {tgt : Nat} (hd : decode cc pc = .ok (.ifCond .gt off, 3)) (ht : (pc : Int) + off = (tgt : Int)) (a1 : -2147483648 ≤ x) (a2 : x < 2147483648) (kt : 0 < x → Z X tgt l st h k n) (kf : ¬ 0 < x → Z X (pc + 3) l st h k n) : Z X pc l (vI x :: st) h k n := by
  obtain ⟨p, ln, e, R, s, m, args, below, meth, c, G, A, nL, Q⟩ := X
  obtain ⟨hx, hb, hml, hown, hts, hK, hBG, hA, hlk, hnm, hfr, hlo, htr⟩ := C
  intro H locs ls hP hS hdom hl
  exact lv_if_gt hx hb hd ht (fun q => kt ((jI_lt (a := 0) (by decide) (by decide) a1 a2).mp q) H locs ls hP hS hdom hl) (fun q => kf (fun z => q ((jI_lt (a := 0) (by decide) (by decide) a1 a2).mpr z)) H locs ls hP hS hdom hl)

theorem Z.if_le (C : ZC X cc y d) {x : Int} {off : Int} {tgt : Nat} (hd : decode cc pc = .ok (.ifCond .le off, 3)) (ht : (pc : Int) + off = (tgt : Int)) (a1 : -2147483648 ≤ x) (a2 : x < 2147483648) (kt : x ≤ 0 → Z X tgt l st h k n) (kf : ¬ x ≤ 0 → Z X (pc + 3) l st h k n) : Z X pc l (vI x :: st) h k n := by
  obtain ⟨p, ln, e, R, s, m, args, below, meth, c, G, A, nL, Q⟩ := X
  obtain ⟨hx, hb, hml, hown, hts, hK, hBG, hA, hlk, hnm, hfr, hlo, htr⟩ := C
  intro H locs ls hP hS hdom hl
  exact lv_if_le hx hb hd ht (fun q => kt ((jI_le a1 a2 (b := 0) (by decide) (by decide)).mp q) H locs ls hP hS hdom hl) (fun q => kf (fun z => q ((jI_le a1 a2 (b := 0) (by decide) (by decide)).mpr z)) H locs ls hP hS hdom hl)

theorem Z.goto (C : ZC X cc y d) {off : Int} {tgt : Nat} (hd : decode cc pc = .ok (.goto off, 3)) (ht : (pc : Int) + off = (tgt : Int)) (kk : Z X (tgt) l st h k n) : Z X pc l st h k n := by
  obtain ⟨p, ln, e, R, s, m, args, below, meth, c, G, A, nL, Q⟩ := X
  obtain ⟨hx, hb, hml, hown, hts, hK, hBG, hA, hlk, hnm, hfr, hlo, htr⟩ := C
  intro H locs ls hP hS hdom hl
  exact lv_goto hx hb hd ht (kk H locs ls hP hS hdom hl)

theorem Z.dup (C : ZC X cc y d) {v : Value} (hd : decode cc pc = .ok (.dup, 1)) (hv : v.category = 1) (kk : Z X (pc + 1) l (v :: v :: st) h k n) : Z X pc l (v :: st) h k n := by
  obtain ⟨p, ln, e, R, s, m, args, below, meth, c, G, A, nL, Q⟩ := X
  obtain ⟨hx, hb, hml, hown, hts, hK, hBG, hA, hlk, hnm, hfr, hlo, htr⟩ := C
  intro H locs ls hP hS hdom hl
  exact lv_dup hx hb hd hv (kk H locs ls hP hS hdom hl)

theorem Z.dup2 (C : ZC X cc y d) {v w : Value} (hd : decode cc pc = .ok (.dup2, 1)) (hv : v.category = 1) (hw : w.category = 1) (kk : Z X (pc + 1) l (v :: w :: v :: w :: st) h k n) : Z X pc l (v :: w :: st) h k n := by
  obtain ⟨p, ln, e, R, s, m, args, below, meth, c, G, A, nL, Q⟩ := X
  obtain ⟨hx, hb, hml, hown, hts, hK, hBG, hA, hlk, hnm, hfr, hlo, htr⟩ := C
  intro H locs ls hP hS hdom hl
  exact lv_dup2_11 hx hb hd hv hw (kk H locs ls hP hS hdom hl)

theorem Z.dup_x1 (C : ZC X cc y d) {v w : Value} (hd : decode cc pc = .ok (.dup_x1, 1)) (hv : v.category = 1) (hw : w.category = 1) (kk : Z X (pc + 1) l (v :: w :: v :: st) h k n) : Z X pc l (v :: w :: st) h k n := by
  obtain ⟨p, ln, e, R, s, m, args, below, meth, c, G, A, nL, Q⟩ := X
  obtain ⟨hx, hb, hml, hown, hts, hK, hBG, hA, hlk, hnm, hfr, hlo, htr⟩ := C
  intro H locs ls hP hS hdom hl
  exact lv_dup_x1 hx hb hd hv hw (kk H locs ls hP hS hdom hl)

theorem Z.pop (C : ZC X cc y d) {v : Value} (hd : decode cc pc = .ok (.pop, 1)) (hv : v.category = 1) (kk : Z X (pc + 1) l st h k n) : Z X pc l (v :: st) h k n := by
  obtain ⟨p, ln, e, R, s, m, args, below, meth, c, G, A, nL, Q⟩ := X
  obtain ⟨hx, hb, hml, hown, hts, hK, hBG, hA, hlk, hnm, hfr, hlo, htr⟩ := C
  intro H locs ls hP hS hdom hl
  exact lv_pop hx hb hd hv (kk H locs ls hP hS hdom hl)

theorem Z.tblIn (C : ZC X cc y d) {x : Int} {dflt lo hi : Int} {offs : Array Int} {len : Nat} {off : Int} {tgt : Nat} (hd : decode cc pc = .ok (.tableswitch dflt lo hi offs, len)) (a1 : -2147483648 ≤ x) (a2 : x < 2147483648) (h1 : lo ≤ x) (h2 : x ≤ hi) (ho : offs[(x - lo).toNat]? = some off) (ht : (pc : Int) + off = (tgt : Int)) (kk : Z X tgt l st h k n) : Z X pc l (vI x :: st) h k n := by
  obtain ⟨p, ln, e, R, s, m, args, below, meth, c, G, A, nL, Q⟩ := X
  obtain ⟨hx, hb, hml, hown, hts, hK, hBG, hA, hlk, hnm, hfr, hlo, htr⟩ := C
  intro H locs ls hP hS hdom hl
  exact lv_tableIn hx hb hd (by rw [jI_toInt a1 a2]; omega) (by rw [jI_toInt a1 a2]; omega) (by rw [jI_toInt a1 a2]; exact ho) ht (kk H locs ls hP hS hdom hl)
theorem Z.tblOut (C : ZC X cc y d) {x : Int} {dflt lo hi : Int} {offs : Array Int} {len : Nat} {tgt : Nat} (hd : decode cc pc = .ok (.tableswitch dflt lo hi offs, len)) (a1 : -2147483648 ≤ x) (a2 : x < 2147483648) (h1 : x < lo ∨ hi < x) (ht : (pc : Int) + dflt = (tgt : Int)) (kk : Z X tgt l st h k n) : Z X pc l (vI x :: st) h k n := by
  obtain ⟨p, ln, e, R, s, m, args, below, meth, c, G, A, nL, Q⟩ := X
  obtain ⟨hx, hb, hml, hown, hts, hK, hBG, hA, hlk, hnm, hfr, hlo, htr⟩ := C
  intro H locs ls hP hS hdom hl
  exact lv_tableOut hx hb hd (by rw [jI_toInt a1 a2]; exact h1) ht (kk H locs ls hP hS hdom hl)
theorem va_rf_some (a : Nat) : Value.ref a = va_rf (some a) := rfl
theorem Z.acmp_ne (C : ZC X cc y d) {a b : Nat} {off : Int} {tgt : Nat} (hd : decode cc pc = .ok (.if_acmp .ne off, 3)) (ht : (pc : Int) + off = (tgt : Int)) (kt : ¬ a = b → Z X tgt l st h k n) (kf : a = b → Z X (pc + 3) l st h k n) : Z X pc l (.ref b :: .ref a :: st) h k n := by
  obtain ⟨p, ln, e, R, s, m, args, below, meth, c, G, A, nL, Q⟩ := X
  obtain ⟨hx, hb, hml, hown, hts, hK, hBG, hA, hlk, hnm, hfr, hlo, htr⟩ := C
  intro H locs ls hP hS hdom hl
  exact lv_acmp_ne (rx := some a) (ry := some b) hx hb hd ht (fun q => kt (fun z => q (congrArg some z)) H locs ls hP hS hdom hl) (fun q => kf (Option.some.inj q) H locs ls hP hS hdom hl)
theorem Z.acmp_eq (C : ZC X cc y d) {a b : Nat} {off : Int} {tgt : Nat} (hd : decode cc pc = .ok (.if_acmp .eq off, 3)) (ht : (pc : Int) + off = (tgt : Int)) (kt : a = b → Z X tgt l st h k n) (kf : ¬ a = b → Z X (pc + 3) l st h k n) : Z X pc l (.ref b :: .ref a :: st) h k n := by
  obtain ⟨p, ln, e, R, s, m, args, below, meth, c, G, A, nL, Q⟩ := X
  obtain ⟨hx, hb, hml, hown, hts, hK, hBG, hA, hlk, hnm, hfr, hlo, htr⟩ := C
  intro H locs ls hP hS hdom hl
  exact lv_acmp_eq (rx := some a) (ry := some b) hx hb hd ht (fun q => kt (Option.some.inj q) H locs ls hP hS hdom hl) (fun q => kf (fun z => q (congrArg some z)) H locs ls hP hS hdom hl)
/-- fewer locals -/
theorem Z.pre {l' : List Value} (n1 : Nat) (hl' : l.take n1 = l') (kk : Z X pc l' st h k n) : Z X pc l st h k n := by
  subst hl'
  obtain ⟨p, ln, e, R, s, m, args, below, meth, c, G, A, nL, Q⟩ := X
  intro H locs ls hP hS hdom hl
  exact kk H locs ls hP hS hdom (hl.pre n1)
theorem Z.widen {k' n' : Nat} (h1 : k ≤ k') (h2 : n ≤ n') (kk : Z X pc l st h k' n') : Z X pc l st h k n := by
  obtain ⟨p, ln, e, R, s, m, args, below, meth, c, G, A, nL, Q⟩ := X
  intro H locs ls hP hS hdom hl
  exact W.widen h1 h2 (kk H locs ls hP hS hdom hl)
/-- a heap that says less -/
theorem Z.sub {h' : zH} (hs : ∀ q e, h' q = some e → h q = some e) (kk : Z X pc l st h' k n) : Z X pc l st h k n := by
  obtain ⟨p, ln, e, R, s, m, args, below, meth, c, G, A, nL, Q⟩ := X
  intro H locs ls hP hS hdom hl
  refine kk H locs ls (fun a e he => hP a e (hs a e he)) hS (fun q hq => hdom q (fun z => ?_)) hl
  cases hc : h' q with
  | none => exact hq hc
  | some e => rw [hs q e hc] at z; cases z

end ZR
end
section
theorem zdom_put {A : Nat → Prop} {h : zH} {a : Nat} {e : va_E} (hd : ∀ q, h q ≠ none → A q) (ha : A a) : ∀ q, zput h a e q ≠ none → A q := by
  intro q hq
  by_cases z : q = a
  · rw [z]; exact ha
  · rw [zput_ne h e z] at hq; exact hd q hq
theorem zlook {A : Nat → Prop} {h : zH} {a : Nat} {e : va_E} (hdom : ∀ q, h q ≠ none → A q) (ho : h a = some e) : A a := hdom a (by rw [ho]; exact fun q => by cases q)
theorem va_S.new {A : Nat → Prop} {H0 H H1 : Heap} {locs : List Loc} (h : va_S A H0 H locs) (z : H1.size = H.size + 1) (o1 : ∀ q : Nat, q < H.size → H1[q]? = H[q]?) : va_S A H0 H1 locs :=
  ⟨Nat.le_trans h.1 (by omega), fun x h1 h2 => (o1 x (Nat.lt_of_lt_of_le h1 h.1)).trans (h.2.1 x h1 h2), h.2.2⟩
theorem jI_upd (f : Nat → Int) (i : Nat) (x : Int) : upd (fun j => jI (f j)) i (jI x) = fun j => jI (va_up f i x j) := by
  funext j
  unfold upd va_up
  split <;> rfl

section ZR
variable {X : zX} {cc : ByteArray} {y : MethodName} {d : Nat} {pc : Nat} {l st : List Value} {h : zH} {k n : Nat}

theorem Z.getf (C : ZC X cc y d) {ci index kf N : Nat} {CN ref : String} {T : u_T} {fs : List Value} {v : Value} {a : Nat} (hc : vwCl[ci]? = some (CN, T, N)) (hin : ∀ w ∈ u_ws CN T N, w ∈ zW) (hk : kf < N) (hlink : Cond.fieldLink y.cls index ref (T kf).2.1 (T kf).2.2.1 ∈ zW) (hsame : (T kf).1 = ref ∨ Cond.sameField ref (T kf).1 (T kf).2.1 (T kf).2.2.1 ∈ zW) (hd : decode cc pc = .ok (.getfield index, 3)) (ho : h a = some (eO ci fs)) (hv : fs[kf]? = some v) (kk : Z X (pc + 3) l (v :: st) h k n) : Z X pc l (.ref a :: st) h k n := by
  obtain ⟨p, ln, e, R, s, m, args, below, meth, c, G, A, nL, Q⟩ := X
  obtain ⟨hx, hb, hml, hown, hts, hK, hBG, hA, hlk, hnm, hfr, hlo, htr⟩ := C
  intro H locs ls hP hS hdom hl
  refine va_get hx hb hts hin hown hK (hP.one ho) 0 rfl hc kf hk (hts _ hlink) ?_ hv hd (kk H locs ls hP hS hdom hl)
  rcases hsame with rfl | hw
  · exact fun _ q => q
  · exact fun z q => u_same (hts _ hw) z q

theorem Z.putf (C : ZC X cc y d) {ci index kf N : Nat} {CN ref : String} {T : u_T} {ty0 : Nat → FieldType} {fs fs' : List Value} {v : Value} {a : Nat} (hc : vwCl[ci]? = some (CN, T, N)) (hin : ∀ w ∈ u_ws CN T N, w ∈ zW) (hty : ∀ k, k < N → parseFieldDescriptor (T k).2.2.1 = some (ty0 k)) (hnmT : ∀ a, a < N → ∀ b, b < N → a ≠ b → (T a).2.1 ≠ (T b).2.1) (hk : kf < N) (hlink : Cond.fieldLink y.cls index ref (T kf).2.1 (T kf).2.2.1 ∈ zW) (hsame : (T kf).1 = ref ∨ Cond.sameField ref (T kf).1 (T kf).2.1 (T kf).2.2.1 ∈ zW) (hfin : (T kf).2.2.2 = false) (hd : decode cc pc = .ok (.putfield index, 3)) (hn : narrow (ty0 kf) v = v) (hfit : fits (ty0 kf) v = true) (ho : h a = some (eO ci fs)) (hlen : kf < fs.length) (hfs : fs.set kf v = fs') (kk : Z X (pc + 3) l st (zput h a (eO ci fs')) k n) : Z X pc l (v :: .ref a :: st) h k n := by
  subst hfs
  obtain ⟨p, ln, e, R, s, m, args, below, meth, c, G, A, nL, Q⟩ := X
  obtain ⟨hx, hb, hml, hown, hts, hK, hBG, hA, hlk, hnm, hfr, hlo, htr⟩ := C
  intro H locs ls hP hS hdom hl
  have hAa : A a := zlook hdom ho
  have hap := va_apart (own := y.cls) hts hin ty0 hty hnmT hK hc
  obtain ⟨r, h1, cell, q1, q2, q3, q4⟩ := hP a _ ho
  have hr : r = (CN, T, N) := Option.some.inj (h1.symm.trans hc)
  subst hr
  obtain ⟨hSl, hfc, kC, hkC, hkind⟩ := hK.1 ci _ hc
  obtain ⟨cf, kf9, fi, f, hi, hsl⟩ := hSl kf hk
  have hsm : ∀ x, s.fieldFound? (T kf).1 (T kf).2.1 (T kf).2.2.1 = some x → s.fieldFound? ref (T kf).2.1 (T kf).2.2.1 = some x := by
    rcases hsame with rfl | hw
    · exact fun _ q => q
    · exact fun z q => u_same (hts _ hw) z q
  have hlay := hts _ (hin _ (u_in_lay hk))
  unfold u_lay at hlay
  rw [if_neg (by rw [hfin]; decide)] at hlay
  have hst := (u_facts hfc hkC (u_lays hts hin hk) hi).1
  have h6 := u_store hfc hkC hkind hlay hi (hty kf hk) hn hfit
  refine W.putK hx hb (f := f) ⟨hown, hts _ hlink, ⟨_, _, _, hsm _ hi⟩, hst⟩ (by rw [q2]; exact h6) q1 q3 (by rw [hsl]; exact k2_hasslot (q4 kf hk)) rfl rfl hd fun H1 e1 e2 e3 => ?_
  rw [hsl] at e1 ⊢
  refine kk H1 _ ls (hP.put ⟨_, hc, t_OB.to (V := updV (vp_V fs) kf v) ⟨_, e1, q2, q3, t_set q4 hap hk v⟩ (fun j _ => vp_updV_set hlen v j)⟩ (fun q _ hq => e3 q hq)) (hS.put e2 e3 hAa) (zdom_put hdom hAa) hl

theorem Z.putF (C : ZC X cc y d) {ci index kf N : Nat} {CN ref : String} {T : u_T} {ty0 : Nat → FieldType} {fs fs' : List Value} {v : Value} {a : Nat} (hc : vwCl[ci]? = some (CN, T, N)) (hin : ∀ w ∈ u_ws CN T N, w ∈ zW) (hty : ∀ k, k < N → parseFieldDescriptor (T k).2.2.1 = some (ty0 k)) (hnmT : ∀ a, a < N → ∀ b, b < N → a ≠ b → (T a).2.1 ≠ (T b).2.1) (hk : kf < N) (hlink : Cond.fieldLink y.cls index ref (T kf).2.1 (T kf).2.2.1 ∈ zW) (hsame : (T kf).1 = ref ∨ Cond.sameField ref (T kf).1 (T kf).2.1 (T kf).2.2.1 ∈ zW) (hfin : (T kf).2.2.2 = true) (hin2 : y.name = "<init>") (hdecl : (T kf).1 = y.cls) (hd : decode cc pc = .ok (.putfield index, 3)) (hn : narrow (ty0 kf) v = v) (hfit : fits (ty0 kf) v = true) (ho : h a = some (eO ci fs)) (hlen : kf < fs.length) (hfs : fs.set kf v = fs') (kk : Z X (pc + 3) l st (zput h a (eO ci fs')) k n) : Z X pc l (v :: .ref a :: st) h k n := by
  subst hfs
  obtain ⟨p, ln, e, R, s, m, args, below, meth, c, G, A, nL, Q⟩ := X
  obtain ⟨hx, hb, hml, hown, hts, hK, hBG, hA, hlk, hnm, hfr, hlo, htr⟩ := C
  intro H locs ls hP hS hdom hl
  have hAa : A a := zlook hdom ho
  have hap := va_apart (own := y.cls) hts hin ty0 hty hnmT hK hc
  obtain ⟨r, h1, cell, q1, q2, q3, q4⟩ := hP a _ ho
  have hr : r = (CN, T, N) := Option.some.inj (h1.symm.trans hc)
  subst hr
  obtain ⟨hSl, hfc, kC, hkC, hkind⟩ := hK.1 ci _ hc
  obtain ⟨cf, kf9, fi, f, hi, hsl⟩ := hSl kf hk
  have hsm : ∀ x, s.fieldFound? (T kf).1 (T kf).2.1 (T kf).2.2.1 = some x → s.fieldFound? ref (T kf).2.1 (T kf).2.2.1 = some x := by
    rcases hsame with rfl | hw
    · exact fun _ q => q
    · exact fun z q => u_same (hts _ hw) z q
  have hlay := hts _ (hin _ (u_in_lay hk))
  unfold u_lay at hlay
  rw [if_pos hfin] at hlay
  have hst := (u_facts hfc hkC (u_lays hts hin hk) hi).1
  have hcf : m.cls = cf := by
    obtain ⟨_, _, c', _, _, _, -, -, hf', -, -, -, hown2, -⟩ := Cond.laysFinal_spec hlay
    have e1 : c' = cf := by have := hi.symm.trans hf'; simp at this; exact this.1.symm
    rw [hdecl] at hown2
    rw [← e1]; exact Option.some.inj (hown.symm.trans hown2)
  have h6 := u_fits hfc hkC hkind (Or.inr hlay) hi (hty kf hk) hn hfit
  refine W.putFinK hx hb hown (hts _ hlink) (hsm _ hi) hst hcf (hnm.trans hin2) (by rw [q2]; exact h6) q1 q3 (by rw [hsl]; exact k2_hasslot (q4 kf hk)) rfl rfl hd fun H1 e1 e2 e3 => ?_
  rw [hsl] at e1 ⊢
  refine kk H1 _ ls (hP.put ⟨_, hc, t_OB.to (V := updV (vp_V fs) kf v) ⟨_, e1, q2, q3, t_set q4 hap hk v⟩ (fun j _ => vp_updV_set hlen v j)⟩ (fun q _ hq => e3 q hq)) (hS.put e2 e3 hAa) (zdom_put hdom hAa) hl

theorem Z.new (C : ZC X cc y d) {ci index N : Nat} {CN : String} {T : u_T} {ty0 : Nat → FieldType} {fs : List Value} (hc : vwCl[ci]? = some (CN, T, N)) (hin : ∀ w ∈ u_ws CN T N, w ∈ zW) (hty : ∀ k, k < N → parseFieldDescriptor (T k).2.2.1 = some (ty0 k)) (hcl : Cond.classLink y.cls index CN ∈ zW) (hinst : Cond.instantiable CN N ∈ zW) (hini : Cond.initialized CN ∈ zW) (hfs : ∀ j, j < N → defaultValue (ty0 j) = vp_V fs j) (hd : decode cc pc = .ok (.new index, 3)) (hk : k + 1 ≤ (zR_of X).cells) (hn : n + N ≤ (zR_of X).slots) (kk : ∀ a : Nat, h a = none → Z X (pc + 3) l (.ref a :: st) (zput h a (eO ci fs)) (k + 1) (n + N)) : Z X pc l st h k n := by
  obtain ⟨p, ln, e, R, s, m, args, below, meth, c, G, A, nL, Q⟩ := X
  obtain ⟨hx, hb, hml, hown, hts, hK, hBG, hA, hlk, hnm, hfr, hlo, htr⟩ := C
  intro H locs ls hP hS hdom hl
  have hKn := hK.1 ci _ hc
  refine W.newcK hx hb hown (hts _ hcl) (hts _ hinst) (hts _ hini) rfl hd hk hn hKn.2.1 rfl fun H1 kC hkC e1 z1 o1 => ?_
  have hAa : A H.size := hA _ hS.1
  exact kk H.size hP.fresh H1 locs ls (hP.put ⟨_, hc, (u_born ty0 hts hin hKn hkC e1 hty).to hfs⟩ (fun q hq _ => o1 q hq)) (hS.new z1 o1) (zdom_put hdom hAa) hl

theorem Z.newI (C : ZC X cc y d) {N : Nat} {x : Int} (harr : Cond.arrayClass .int ∈ zW) (hd : decode cc pc = .ok (.newarray .int, 2)) (hN : x = (N : Int)) (hb1 : N < 65536) (hk : k + 1 ≤ (zR_of X).cells) (hn : n + N ≤ (zR_of X).slots) (kk : ∀ a : Nat, h a = none → Z X (pc + 2) l (.ref a :: st) (zput h a (eI ((zG_of X).2.1 0) N (fun _ => 0))) (k + 1) (n + N)) : Z X pc l (vI x :: st) h k n := by
  subst hN
  obtain ⟨p, ln, e, R, s, m, args, below, meth, c, G, A, nL, Q⟩ := X
  obtain ⟨hx, hb, hml, hown, hts, hK, hBG, hA, hlk, hnm, hfr, hlo, htr⟩ := C
  intro H locs ls hP hS hdom hl
  refine va_newaK (atype := .int) (N := N) hx hb (hts _ harr) rfl hd rfl ?_ ?_ ?_ hk hn rfl fun H1 cA e1 z1 o1 hAr hNm => ?_
  · rw [jI_nat]; exact nI_pos (by omega)
  · rw [jI_nat]; exact nI_clamp (by omega)
  · show N * _ ≤ _
    have : componentBytes (newarray.typeOf .int) ≤ 8 := by decide
    exact Nat.le_trans (Nat.mul_le_mul (Nat.le_of_lt hb1) this) (by decide)
  · have hcA : cA = G.2.1 0 := by
      have q := (hK.2 0 (G.2.1 0, .int) rfl).2
      exact Option.some.inj (hNm.symm.trans q)
    have hAa : A H.size := hA _ hS.1
    refine kk H.size hP.fresh H1 locs ls (hP.put ?_ (fun q hq _ => o1 q hq)) (hS.new z1 o1) (zdom_put hdom hAa) hl
    show H1[H.size]? = some (vp_cell _ _)
    rw [vp_cell_i, e1, hcA]
    rfl

theorem Z.newZ (C : ZC X cc y d) {N : Nat} {x : Int} (harr : Cond.arrayClass .boolean ∈ zW) (hd : decode cc pc = .ok (.newarray .boolean, 2)) (hN : x = (N : Int)) (hb1 : N < 65536) (hk : k + 1 ≤ (zR_of X).cells) (hn : n + N ≤ (zR_of X).slots) (kk : ∀ a : Nat, h a = none → Z X (pc + 2) l (.ref a :: st) (zput h a (eI ((zG_of X).2.1 1) N (fun _ => 0))) (k + 1) (n + N)) : Z X pc l (vI x :: st) h k n := by
  subst hN
  obtain ⟨p, ln, e, R, s, m, args, below, meth, c, G, A, nL, Q⟩ := X
  obtain ⟨hx, hb, hml, hown, hts, hK, hBG, hA, hlk, hnm, hfr, hlo, htr⟩ := C
  intro H locs ls hP hS hdom hl
  refine va_newaK (atype := .boolean) (N := N) hx hb (hts _ harr) rfl hd rfl ?_ ?_ ?_ hk hn rfl fun H1 cA e1 z1 o1 hAr hNm => ?_
  · rw [jI_nat]; exact nI_pos (by omega)
  · rw [jI_nat]; exact nI_clamp (by omega)
  · show N * _ ≤ _
    have : componentBytes (newarray.typeOf .boolean) ≤ 8 := by decide
    exact Nat.le_trans (Nat.mul_le_mul (Nat.le_of_lt hb1) this) (by decide)
  · have hcA : cA = G.2.1 1 := by
      have q := (hK.2 1 (G.2.1 1, .boolean) rfl).2
      exact Option.some.inj (hNm.symm.trans q)
    have hAa : A H.size := hA _ hS.1
    refine kk H.size hP.fresh H1 locs ls (hP.put ?_ (fun q hq _ => o1 q hq)) (hS.new z1 o1) (zdom_put hdom hAa) hl
    show H1[H.size]? = some (vp_cell _ _)
    rw [vp_cell_i, e1, hcA]
    rfl

theorem Z.newB (C : ZC X cc y d) {N : Nat} {x : Int} (harr : Cond.arrayClass .byte ∈ zW) (hd : decode cc pc = .ok (.newarray .byte, 2)) (hN : x = (N : Int)) (hb1 : N < 65536) (hk : k + 1 ≤ (zR_of X).cells) (hn : n + N ≤ (zR_of X).slots) (kk : ∀ a : Nat, h a = none → Z X (pc + 2) l (.ref a :: st) (zput h a (eI ((zG_of X).2.1 2) N (fun _ => 0))) (k + 1) (n + N)) : Z X pc l (vI x :: st) h k n := by
  subst hN
  obtain ⟨p, ln, e, R, s, m, args, below, meth, c, G, A, nL, Q⟩ := X
  obtain ⟨hx, hb, hml, hown, hts, hK, hBG, hA, hlk, hnm, hfr, hlo, htr⟩ := C
  intro H locs ls hP hS hdom hl
  refine va_newaK (atype := .byte) (N := N) hx hb (hts _ harr) rfl hd rfl ?_ ?_ ?_ hk hn rfl fun H1 cA e1 z1 o1 hAr hNm => ?_
  · rw [jI_nat]; exact nI_pos (by omega)
  · rw [jI_nat]; exact nI_clamp (by omega)
  · show N * _ ≤ _
    have : componentBytes (newarray.typeOf .byte) ≤ 8 := by decide
    exact Nat.le_trans (Nat.mul_le_mul (Nat.le_of_lt hb1) this) (by decide)
  · have hcA : cA = G.2.1 2 := by
      have q := (hK.2 2 (G.2.1 2, .byte) rfl).2
      exact Option.some.inj (hNm.symm.trans q)
    have hAa : A H.size := hA _ hS.1
    refine kk H.size hP.fresh H1 locs ls (hP.put ?_ (fun q hq _ => o1 q hq)) (hS.new z1 o1) (zdom_put hdom hAa) hl
    show H1[H.size]? = some (vp_cell _ _)
    rw [vp_cell_i, e1, hcA]
    rfl

theorem Z.iaload (C : ZC X cc y d) {N a : Nat} {f : Nat → Int} {x : Int} (hd : decode cc pc = .ok (.iaload, 1)) (ho : h a = some (eI ((zG_of X).2.1 0) N f)) (h1 : 0 ≤ x) (h2 : x < N) (hN : N < 2147483648) (kk : Z X (pc + 1) l (vI (f x.toNat) :: st) h k n) : Z X pc l (vI x :: .ref a :: st) h k n := by
  obtain ⟨p, ln, e, R, s, m, args, below, meth, c, G, A, nL, Q⟩ := X
  obtain ⟨hx, hb, hml, hown, hts, hK, hBG, hA, hlk, hnm, hfr, hlo, htr⟩ := C
  intro H locs ls hP hS hdom hl
  refine va_iald hx hb hK (hP.one ho) 0 0 rfl rfl (jI_in h1 h2 hN) hd ?_
  rw [jI_clamp h1 (by omega)]
  exact kk H locs ls hP hS hdom hl

theorem Z.zaload (C : ZC X cc y d) {N a : Nat} {f : Nat → Int} {x : Int} (hd : decode cc pc = .ok (.baload, 1)) (ho : h a = some (eI ((zG_of X).2.1 1) N f)) (h1 : 0 ≤ x) (h2 : x < N) (hN : N < 2147483648) (kk : Z X (pc + 1) l (vI (f x.toNat) :: st) h k n) : Z X pc l (vI x :: .ref a :: st) h k n := by
  obtain ⟨p, ln, e, R, s, m, args, below, meth, c, G, A, nL, Q⟩ := X
  obtain ⟨hx, hb, hml, hown, hts, hK, hBG, hA, hlk, hnm, hfr, hlo, htr⟩ := C
  intro H locs ls hP hS hdom hl
  refine va_zald hx hb hK (hP.one ho) 0 1 rfl rfl (jI_in h1 h2 hN) hd ?_
  rw [jI_clamp h1 (by omega)]
  exact kk H locs ls hP hS hdom hl

theorem Z.baload (C : ZC X cc y d) {N a : Nat} {f : Nat → Int} {x : Int} (hd : decode cc pc = .ok (.baload, 1)) (ho : h a = some (eI ((zG_of X).2.1 2) N f)) (h1 : 0 ≤ x) (h2 : x < N) (hN : N < 2147483648) (kk : Z X (pc + 1) l (vI (f x.toNat) :: st) h k n) : Z X pc l (vI x :: .ref a :: st) h k n := by
  obtain ⟨p, ln, e, R, s, m, args, below, meth, c, G, A, nL, Q⟩ := X
  obtain ⟨hx, hb, hml, hown, hts, hK, hBG, hA, hlk, hnm, hfr, hlo, htr⟩ := C
  intro H locs ls hP hS hdom hl
  refine va_bald hx hb hK (hP.one ho) 0 2 rfl rfl (jI_in h1 h2 hN) hd ?_
  rw [jI_clamp h1 (by omega)]
  exact kk H locs ls hP hS hdom hl

theorem Z.iastore (C : ZC X cc y d) {N a : Nat} {f : Nat → Int} {x z : Int} (hd : decode cc pc = .ok (.iastore, 1)) (ho : h a = some (eI ((zG_of X).2.1 0) N f)) (h1 : 0 ≤ x) (h2 : x < N) (hN : N < 2147483648) (kk : Z X (pc + 1) l st (zput h a (eI ((zG_of X).2.1 0) N (va_up f x.toNat z))) k n) : Z X pc l (vI z :: vI x :: .ref a :: st) h k n := by
  obtain ⟨p, ln, e, R, s, m, args, below, meth, c, G, A, nL, Q⟩ := X
  obtain ⟨hx, hb, hml, hown, hts, hK, hBG, hA, hlk, hnm, hfr, hlo, htr⟩ := C
  intro H locs ls hP hS hdom hl
  have hAa : A a := zlook hdom ho
  refine W.iast hx hb (hP a _ ho) ((hK.2 0 (G.2.1 0, .int) rfl).1 N (fun j => .int (jI (f j)))) (fun q => by cases q) (by show ¬ (_ ∨ (arrV _ _ _).slots.size ≤ _); rw [arrV_size]; exact jI_in h1 h2 hN) rfl rfl hd fun H1 e9 z9 oq => ?_
  refine kk H1 _ ls (hP.put ?_ (fun q _ hq => oq q hq)) (hS.put z9 oq hAa) (zdom_put hdom hAa) hl
  show H1[a]? = some (vp_cell _ _)
  rw [e9, jI_clamp h1 (by omega)]
  
  show some (Cell.setSlot (arrV (G.2.1 0) N (fun j => Value.int (jI (f j)))) x.toNat (Value.int (jI z))) = some (arrV (G.2.1 0) N (fun j => Value.int (jI (va_up f x.toNat z j))))
  rw [arrV_store]
  congr 2
  funext q
  simp only [updV, va_up]
  by_cases hq : q = x.toNat
  · subst hq; simp
  · simp [hq]

theorem Z.zastore (C : ZC X cc y d) {N a : Nat} {f : Nat → Int} {x z : Int} (hd : decode cc pc = .ok (.bastore, 1)) (ho : h a = some (eI ((zG_of X).2.1 1) N f)) (h1 : 0 ≤ x) (h2 : x < N) (hN : N < 2147483648) (hz : z = 0 ∨ z = 1) (kk : Z X (pc + 1) l st (zput h a (eI ((zG_of X).2.1 1) N (va_up f x.toNat z))) k n) : Z X pc l (vI z :: vI x :: .ref a :: st) h k n := by
  obtain ⟨p, ln, e, R, s, m, args, below, meth, c, G, A, nL, Q⟩ := X
  obtain ⟨hx, hb, hml, hown, hts, hK, hBG, hA, hlk, hnm, hfr, hlo, htr⟩ := C
  intro H locs ls hP hS hdom hl
  have hAa : A a := zlook hdom ho
  refine W.zast hx hb (hP a _ ho) ((hK.2 1 (G.2.1 1, .boolean) rfl).1 N (fun j => .int (jI (f j)))) (fun q => by cases q) (by show ¬ (_ ∨ (arrV _ _ _).slots.size ≤ _); rw [arrV_size]; exact jI_in h1 h2 hN) rfl rfl hd fun H1 e9 z9 oq => ?_
  refine kk H1 _ ls (hP.put ?_ (fun q _ hq => oq q hq)) (hS.put z9 oq hAa) (zdom_put hdom hAa) hl
  show H1[a]? = some (vp_cell _ _)
  rw [e9, jI_clamp h1 (by omega)]
  have hz2 : narrow .boolean (.int (jI z)) = .int (jI z) := by rcases hz with rfl | rfl <;> decide
  rw [hz2]
  show some (Cell.setSlot (arrV (G.2.1 1) N (fun j => Value.int (jI (f j)))) x.toNat (Value.int (jI z))) = some (arrV (G.2.1 1) N (fun j => Value.int (jI (va_up f x.toNat z j))))
  rw [arrV_store]
  congr 2
  funext q
  simp only [updV, va_up]
  by_cases hq : q = x.toNat
  · subst hq; simp
  · simp [hq]

theorem Z.bastore (C : ZC X cc y d) {N a : Nat} {f : Nat → Int} {x z : Int} (hd : decode cc pc = .ok (.bastore, 1)) (ho : h a = some (eI ((zG_of X).2.1 2) N f)) (h1 : 0 ≤ x) (h2 : x < N) (hN : N < 2147483648) (hz : narrow .byte (.int (jI z)) = .int (jI z)) (kk : Z X (pc + 1) l st (zput h a (eI ((zG_of X).2.1 2) N (va_up f x.toNat z))) k n) : Z X pc l (vI z :: vI x :: .ref a :: st) h k n := by
  obtain ⟨p, ln, e, R, s, m, args, below, meth, c, G, A, nL, Q⟩ := X
  obtain ⟨hx, hb, hml, hown, hts, hK, hBG, hA, hlk, hnm, hfr, hlo, htr⟩ := C
  intro H locs ls hP hS hdom hl
  have hAa : A a := zlook hdom ho
  refine W.bast hx hb (hP a _ ho) ((hK.2 2 (G.2.1 2, .byte) rfl).1 N (fun j => .int (jI (f j)))) (fun q => by cases q) (by show ¬ (_ ∨ (arrV _ _ _).slots.size ≤ _); rw [arrV_size]; exact jI_in h1 h2 hN) rfl rfl hd fun H1 e9 z9 oq => ?_
  refine kk H1 _ ls (hP.put ?_ (fun q _ hq => oq q hq)) (hS.put z9 oq hAa) (zdom_put hdom hAa) hl
  show H1[a]? = some (vp_cell _ _)
  rw [e9, jI_clamp h1 (by omega)]
  rw [hz]
  show some (Cell.setSlot (arrV (G.2.1 2) N (fun j => Value.int (jI (f j)))) x.toNat (Value.int (jI z))) = some (arrV (G.2.1 2) N (fun j => Value.int (jI (va_up f x.toNat z j))))
  rw [arrV_store]
  congr 2
  funext q
  simp only [updV, va_up]
  by_cases hq : q = x.toNat
  · subst hq; simp
  · simp [hq]

theorem Z.alen (C : ZC X cc y d) {N a ix : Nat} {cA : ClassId} {x : vp_A} {ty : FieldType} (hd : decode cc pc = .ok (.arraylength, 1)) (ho : h a = some (.inl (cA, x))) (ht : (zty (zG_of X).2.1)[ix]? = some (cA, ty)) (hx9 : x.1 = N) (kk : Z X (pc + 1) l (vI (N : Int) :: st) h k n) : Z X pc l (.ref a :: st) h k n := by
  obtain ⟨p, ln, e, R, s, m, args, below, meth, c, G, A, nL, Q⟩ := X
  obtain ⟨hx, hb, hml, hown, hts, hK, hBG, hA, hlk, hnm, hfr, hlo, htr⟩ := C
  intro H locs ls hP hS hdom hl
  refine va_alen (v := jI (N : Int)) hx hb hK (hP.one ho) 0 ix rfl ht ?_ hd (kk H locs ls hP hS hdom hl)
  rw [hx9, jI_nat]
theorem Z.alenI (C : ZC X cc y d) {N a : Nat} {f : Nat → Int} (hd : decode cc pc = .ok (.arraylength, 1)) (ho : h a = some (eI ((zG_of X).2.1 0) N f)) (kk : Z X (pc + 1) l (vI (N : Int) :: st) h k n) : Z X pc l (.ref a :: st) h k n := Z.alen (ix := 0) C hd ho rfl rfl kk
theorem Z.alenZ (C : ZC X cc y d) {N a : Nat} {f : Nat → Int} (hd : decode cc pc = .ok (.arraylength, 1)) (ho : h a = some (eI ((zG_of X).2.1 1) N f)) (kk : Z X (pc + 1) l (vI (N : Int) :: st) h k n) : Z X pc l (.ref a :: st) h k n := Z.alen (ix := 1) C hd ho rfl rfl kk
theorem Z.alenB (C : ZC X cc y d) {N a : Nat} {f : Nat → Int} (hd : decode cc pc = .ok (.arraylength, 1)) (ho : h a = some (eI ((zG_of X).2.1 2) N f)) (kk : Z X (pc + 1) l (vI (N : Int) :: st) h k n) : Z X pc l (.ref a :: st) h k n := Z.alen (ix := 2) C hd ho rfl rfl kk
theorem Z.alenR (C : ZC X cc y d) {N a : Nat} {f : Nat → Option Nat} (hd : decode cc pc = .ok (.arraylength, 1)) (ho : h a = some (eR ((zG_of X).2.1 3) N f)) (kk : Z X (pc + 1) l (vI (N : Int) :: st) h k n) : Z X pc l (.ref a :: st) h k n := Z.alen (ix := 3) C hd ho rfl rfl kk
theorem Z.aaload (C : ZC X cc y d) {N a b : Nat} {f : Nat → Option Nat} {x : Int} (hd : decode cc pc = .ok (.aaload, 1)) (ho : h a = some (eR ((zG_of X).2.1 3) N f)) (h1 : 0 ≤ x) (h2 : x < N) (hN : N < 2147483648) (hv : f x.toNat = some b) (kk : Z X (pc + 1) l (.ref b :: st) h k n) : Z X pc l (vI x :: .ref a :: st) h k n := by
  obtain ⟨p, ln, e, R, s, m, args, below, meth, c, G, A, nL, Q⟩ := X
  obtain ⟨hx, hb, hml, hown, hts, hK, hBG, hA, hlk, hnm, hfr, hlo, htr⟩ := C
  intro H locs ls hP hS hdom hl
  refine va_aldq hx hb hK (hP.one ho) 0 3 rfl rfl (jI_in h1 h2 hN) hd ?_
  rw [jI_clamp h1 (by omega), hv]
  exact kk H locs ls hP hS hdom hl
theorem Z.laload (C : ZC X cc y d) {N a : Nat} {f : Nat → Int64} {x : Int} (hd : decode cc pc = .ok (.laload, 1)) (ho : h a = some (eL ((zG_of X).2.1 4) N f)) (h1 : 0 ≤ x) (h2 : x < N) (hN : N < 2147483648) (kk : Z X (pc + 1) l (.long (f x.toNat) :: st) h k n) : Z X pc l (vI x :: .ref a :: st) h k n := by
  obtain ⟨p, ln, e, R, s, m, args, below, meth, c, G, A, nL, Q⟩ := X
  obtain ⟨hx, hb, hml, hown, hts, hK, hBG, hA, hlk, hnm, hfr, hlo, htr⟩ := C
  intro H locs ls hP hS hdom hl
  refine va_lald hx hb hK (hP.one ho) 0 4 rfl rfl (jI_in h1 h2 hN) hd ?_
  rw [jI_clamp h1 (by omega)]
  exact kk H locs ls hP hS hdom hl
theorem Z.lastore (C : ZC X cc y d) {N a : Nat} {f : Nat → Int64} {x : Int} {z : Int64} (hd : decode cc pc = .ok (.lastore, 1)) (ho : h a = some (eL ((zG_of X).2.1 4) N f)) (h1 : 0 ≤ x) (h2 : x < N) (hN : N < 2147483648) (kk : Z X (pc + 1) l st (zput h a (eL ((zG_of X).2.1 4) N (vp_updL f x.toNat z))) k n) : Z X pc l (.long z :: vI x :: .ref a :: st) h k n := by
  obtain ⟨p, ln, e, R, s, m, args, below, meth, c, G, A, nL, Q⟩ := X
  obtain ⟨hx, hb, hml, hown, hts, hK, hBG, hA, hlk, hnm, hfr, hlo, htr⟩ := C
  intro H locs ls hP hS hdom hl
  have hAa : A a := zlook hdom ho
  refine W.last hx hb (hP a _ ho) ((hK.2 4 (G.2.1 4, .long) rfl).1 N (fun j => .long (f j))) (fun q => by cases q) (by show ¬ (_ ∨ (arrV _ _ _).slots.size ≤ _); rw [arrV_size]; exact jI_in h1 h2 hN) rfl rfl hd fun H1 e9 z9 oq => ?_
  refine kk H1 _ ls (hP.put ?_ (fun q _ hq => oq q hq)) (hS.put z9 oq hAa) (zdom_put hdom hAa) hl
  show H1[a]? = some (vp_cell _ _)
  rw [e9, jI_clamp h1 (by omega)]
  show some (Cell.setSlot (arrV (G.2.1 4) N (fun j => Value.long (f j))) x.toNat (Value.long z)) = some (arrV (G.2.1 4) N (fun j => Value.long (vp_updL f x.toNat z j)))
  rw [arrV_store]
  congr 2
  funext q
  simp only [updV, vp_updL]
  by_cases hq : q = x.toNat
  · subst hq; simp
  · simp [hq]
theorem Z.i2l (C : ZC X cc y d) {x : Int} (hd : decode cc pc = .ok (.i2l, 1)) (kk : Z X (pc + 1) l (.long (jI x).toInt64 :: st) h k n) : Z X pc l (vI x :: st) h k n := by
  obtain ⟨p, ln, e, R, s, m, args, below, meth, c, G, A, nL, Q⟩ := X
  obtain ⟨hx, hb, hml, hown, hts, hK, hBG, hA, hlk, hnm, hfr, hlo, htr⟩ := C
  intro H locs ls hP hS hdom hl
  exact lv_i2l hx hb hd rfl (kk H locs ls hP hS hdom hl)
theorem Z.lconst (C : ZC X cc y d) {i : Fin 2} (hd : decode cc pc = .ok (.lconst i, 1)) (kk : Z X (pc + 1) l (.long (Int64.ofNat (i : Nat)) :: st) h k n) : Z X pc l st h k n := by
  obtain ⟨p, ln, e, R, s, m, args, below, meth, c, G, A, nL, Q⟩ := X
  obtain ⟨hx, hb, hml, hown, hts, hK, hBG, hA, hlk, hnm, hfr, hlo, htr⟩ := C
  intro H locs ls hP hS hdom hl
  exact lv_lconst hx hb hd rfl (kk H locs ls hP hS hdom hl)
theorem Z.lcmp (C : ZC X cc y d) {a b : Int64} (hd : decode cc pc = .ok (.lcmp, 1)) (kk : Z X (pc + 1) l (.int (lg_cmp a b) :: st) h k n) : Z X pc l (.long b :: .long a :: st) h k n := by
  obtain ⟨p, ln, e, R, s, m, args, below, meth, c, G, A, nL, Q⟩ := X
  obtain ⟨hx, hb, hml, hown, hts, hK, hBG, hA, hlk, hnm, hfr, hlo, htr⟩ := C
  intro H locs ls hP hS hdom hl
  exact W.lcmp hx hb hd (kk H locs ls hP hS hdom hl)
/-- checkcast of an object of the class ci -/
theorem Z.cast (C : ZC X cc y d) {ci index : Nat} {nm : String} {q : vw_C} {fs : List Value} {a : Nat} (hc : vwCl[ci]? = some q) (hlink : Cond.classLink y.cls index nm ∈ zW) (hcast : Cond.castable q.1 nm ∈ zW) (hd : decode cc pc = .ok (.checkcast index, 3)) (ho : h a = some (eO ci fs)) (kk : Z X (pc + 3) l (.ref a :: st) h k n) : Z X pc l (.ref a :: st) h k n := by
  obtain ⟨p, ln, e, R, s, m, args, below, meth, c, G, A, nL, Q⟩ := X
  obtain ⟨hx, hb, hml, hown, hts, hK, hBG, hA, hlk, hnm, hfr, hlo, htr⟩ := C
  intro H locs ls hP hS hdom hl
  exact va_castY hx hb hown (hts _ hlink) (va_Nw.of rfl (hts _ hcast)) (va_recv hK (hP.one ho) hc (q0 := 0) rfl) hd (kk H locs ls hP hS hdom hl)
theorem Z.castS (C : ZC X cc y d) {ci index : Nat} {nm : String} {T : u_T} {N : Nat} {fs : List Value} {a : Nat} (hc : vwCl[ci]? = some (nm, T, N)) (hlink : Cond.classLink y.cls index nm ∈ zW) (hd : decode cc pc = .ok (.checkcast index, 3)) (ho : h a = some (eO ci fs)) (kk : Z X (pc + 3) l (.ref a :: st) h k n) : Z X pc l (.ref a :: st) h k n := by
  obtain ⟨p, ln, e, R, s, m, args, below, meth, c, G, A, nL, Q⟩ := X
  obtain ⟨hx, hb, hml, hown, hts, hK, hBG, hA, hlk, hnm, hfr, hlo, htr⟩ := C
  intro H locs ls hP hS hdom hl
  exact va_castS hx hb hown (hts _ hlink) (hK.1 ci _ hc).2 (va_recv hK (hP.one ho) hc (q0 := 0) rfl) hd (kk H locs ls hP hS hdom hl)
/-- statics -/
theorem Z.way (C : ZC X cc y d) {i index : Nat} (hi : i < 4) (hlink : Cond.fieldLink y.cls index "Bandwidthclub$Way" (zWayN i) zWayD ∈ zW) (hd : decode cc pc = .ok (.getstatic index, 3)) (kk : Z X (pc + 3) l (.ref ((zG_of X).2.2 i) :: st) h k n) : Z X pc l st h k n := by
  obtain ⟨p, ln, e, R, s, m, args, below, meth, c, G, A, nL, Q⟩ := X
  obtain ⟨hx, hb, hml, hown, hts, hK, hBG, hA, hlk, hnm, hfr, hlo, htr⟩ := C
  intro H locs ls hP hS hdom hl
  exact va_gets hx hb (hBG.1 i hi) hS hown (hts _ hlink) (fun _ q => q) hd (kk H locs ls hP hS hdom hl)
theorem Z.wayNe (C : ZC X cc y d) {i j : Nat} (hi : i < 4) (hj : j < 4) (hij : i ≠ j) : (zG_of X).2.2 i ≠ (zG_of X).2.2 j := by
  obtain ⟨p, ln, e, R, s, m, args, below, meth, c, G, A, nL, Q⟩ := X
  obtain ⟨hx, hb, hml, hown, hts, hK, hBG, hA, hlk, hnm, hfr, hlo, htr⟩ := C
  exact hBG.2.1 i j hi hj hij
theorem Z.first (C : ZC X cc y d) {index : Nat} (hlink : Cond.fieldLink y.cls index "Bandwidthclub" "FIRST_VALUES" "[I" ∈ zW) (hd : decode cc pc = .ok (.getstatic index, 3)) (kk : Z X (pc + 3) l (.ref ((zG_of X).2.2 4) :: st) h k n) : Z X pc l st h k n := by
  obtain ⟨p, ln, e, R, s, m, args, below, meth, c, G, A, nL, Q⟩ := X
  obtain ⟨hx, hb, hml, hown, hts, hK, hBG, hA, hlk, hnm, hfr, hlo, htr⟩ := C
  intro H locs ls hP hS hdom hl
  exact va_gets hx hb hBG.2.2.1 hS hown (hts _ hlink) (fun _ q => q) hd (kk H locs ls hP hS hdom hl)
theorem Z.emptyR (C : ZC X cc y d) {index : Nat} (hlink : Cond.fieldLink y.cls index "java/util/ArrayList" "DEFAULTCAPACITY_EMPTY_ELEMENTDATA" "[Ljava/lang/Object;" ∈ zW) (hd : decode cc pc = .ok (.getstatic index, 3)) (kk : Z X (pc + 3) l (.ref ((zG_of X).2.2 5) :: st) h k n) : Z X pc l st h k n := by
  obtain ⟨p, ln, e, R, s, m, args, below, meth, c, G, A, nL, Q⟩ := X
  obtain ⟨hx, hb, hml, hown, hts, hK, hBG, hA, hlk, hnm, hfr, hlo, htr⟩ := C
  intro H locs ls hP hS hdom hl
  exact va_gets hx hb hBG.2.2.2.2.1 hS hown (hts _ hlink) (fun _ q => q) hd (kk H locs ls hP hS hdom hl)
theorem Z.compact (C : ZC X cc y d) {index : Nat} (hlink : Cond.fieldLink y.cls index "java/lang/String" "COMPACT_STRINGS" "Z" ∈ zW) (hd : decode cc pc = .ok (.getstatic index, 3)) (kk : Z X (pc + 3) l (vI 1 :: st) h k n) : Z X pc l st h k n := by
  obtain ⟨p, ln, e, R, s, m, args, below, meth, c, G, A, nL, Q⟩ := X
  obtain ⟨hx, hb, hml, hown, hts, hK, hBG, hA, hlk, hnm, hfr, hlo, htr⟩ := C
  intro H locs ls hP hS hdom hl
  exact va_gets hx hb hBG.2.2.2.2.2.2.1 hS hown (hts _ hlink) (fun _ q => q) hd (kk H locs ls hP hS hdom hl)

theorem va_T.alen {p : Program} {ln : Launch} {e : Env} {R : Room} {s : State} {m : MethodId} {args : Array Value} {below : List Frame} {meth : Method} {c : Code} {H : Heap} {locs : List Loc} {cells slots : Nat} {Q : State → Prop} {cc : ByteArray} {pc : Nat} {ls : Array Slot} {rest : List Value} {t N : Nat} {f : Nat → Value} {A : Nat → Prop} {ty : FieldType} (hexec : p.tables.exec = Jvm.exec) (hb : c.code = cc) (hT : va_T ty t N f A s s.heap) (hS : va_S A s.heap H locs) (hdg : decode cc pc = .ok (.arraylength, 1))
    (kk : W p ln e R s m args below meth c H locs cells slots Q (F0 m (pc + 1) ls (.int (Int32.ofNat N) :: rest))) : W p ln e R s m args below meth c H locs cells slots Q (F0 m pc ls (.ref t :: rest)) := by
  obtain ⟨cell, h1, h2, h3, h4, h5, h6, h7⟩ := hT
  exact W.alen (n := Int32.ofNat N) hexec hb (by rw [hS.2.1 t (Array.getElem?_eq_some_iff.mp h1).1 h7]; exact h1) h2 h5 rfl rfl hdg kk

theorem Z.firstLen (C : ZC X cc y d) (hd : decode cc pc = .ok (.arraylength, 1)) (kk : Z X (pc + 1) l (vI 3 :: st) h k n) : Z X pc l (.ref ((zG_of X).2.2 4) :: st) h k n := by
  obtain ⟨p, ln, e, R, s, m, args, below, meth, c, G, A, nL, Q⟩ := X
  obtain ⟨hx, hb, hml, hown, hts, hK, hBG, hA, hlk, hnm, hfr, hlo, htr⟩ := C
  intro H locs ls hP hS hdom hl
  exact va_T.alen hx hb hBG.2.2.2.1 hS hd (kk H locs ls hP hS hdom hl)
theorem Z.firstAt (C : ZC X cc y d) {x : Int} (h1 : 0 ≤ x) (h2 : x < 3) (hd : decode cc pc = .ok (.iaload, 1)) (kk : Z X (pc + 1) l (vI (zFirst x.toNat) :: st) h k n) : Z X pc l (vI x :: .ref ((zG_of X).2.2 4) :: st) h k n := by
  obtain ⟨p, ln, e, R, s, m, args, below, meth, c, G, A, nL, Q⟩ := X
  obtain ⟨hx, hb, hml, hown, hts, hK, hBG, hA, hlk, hnm, hfr, hlo, htr⟩ := C
  intro H locs ls hP hS hdom hl
  refine va_ti hx hb hBG.2.2.2.1 hS (jI_in h1 (by exact_mod_cast h2) (by decide)) ?_ hd (kk H locs ls hP hS hdom hl)
  rw [jI_clamp h1 (by omega)]
theorem Z.emptyLen (C : ZC X cc y d) (hd : decode cc pc = .ok (.arraylength, 1)) (kk : Z X (pc + 1) l (vI 0 :: st) h k n) : Z X pc l (.ref ((zG_of X).2.2 5) :: st) h k n := by
  obtain ⟨p, ln, e, R, s, m, args, below, meth, c, G, A, nL, Q⟩ := X
  obtain ⟨hx, hb, hml, hown, hts, hK, hBG, hA, hlk, hnm, hfr, hlo, htr⟩ := C
  intro H locs ls hP hS hdom hl
  exact va_T.alen hx hb hBG.2.2.2.2.2.1 hS hd (kk H locs ls hP hS hdom hl)

end ZR
end
section
def zLn (X : zX) : Launch := X.2.1
theorem zPc_blind (G : zG) (h : zH) (sz : Nat) (as : List Value) : FrameBlind (zPc G h sz as) := by
  intro a U g mk q
  obtain ⟨h1, h2, h3, h4, h5⟩ := q
  exact ⟨h1, h2, h3, zK.moved (u := U) (U := U.calling g mk a) (Vm.Alike.refl U.vm) h4, zBG.warm (u := U) (U := U.calling g mk a) (State.WarmedH.refl U) h5⟩
theorem zPay {s : State} {args : Array Value} (hts : ∀ w ∈ zW, w.before args s = true) {w0 : Cond} (h0 : w0 ∈ zW) : ∀ w ∈ w0 :: zW, ∀ (a' : Array Value) (U : State), s.WarmedH U.vm → w.before a' U = true := by
  intro w hw a' U hW
  have h1 : w ∈ zW := by
    rcases List.mem_cons.mp hw with rfl | h
    · exact h0
    · exact h
  exact word_at hW (good_of_word (zW_good h1)) (hts w h1)
theorem zMet {ln : Launch} {y : MethodName} {ws : List Cond} {rm : Room} {Pc : Array Value → State → Prop} {Qc : Array Value → State → Outcome → State → Prop} {XC : String → State → State → Prop} {mc ms : Nat} {free : Addr → Prop} (h : vx_Met ln y ws rm Pc Qc XC mc ms free) (hno : ∀ E st t, ¬ XC E st t) : Met ln y ws rm Pc Qc mc ms free := by
  intro p e h1 h2 h3 s m args below h4 h5 h6 h7
  obtain ⟨n, o, a1, a2, a3, a4⟩ := h p e h1 h2 h3 s m args below h4 h5 h6 h7
  refine ⟨n, o, a1, a2, a3, ?_⟩
  rcases a4 with q | ⟨q, -, E, ce, L, z, -⟩
  · exact q
  · exact absurd z (hno _ _ _)
def zNo : String → zH → Prop := fun _ _ => False
theorem zNo_c {G : zG} {A : Nat → Prop} : ∀ E st t, ¬ zXc G A zNo E st t := fun _ _ _ h => by obtain ⟨_, q, _⟩ := h; exact q
/-- a contract's start -/
theorem CT.intro {ln : Launch} {G : zG} {y : MethodName} {cc : ByteArray} {maxL : Nat} {ret : Option FieldType} {d : Nat} {as : List Value} {h : zH} {mc ms : Nat} {Qf : Option Value → zH → Prop} {Xf : String → zH → Prop} (htr : ln.stackTraces = false) (hy : plainName y.cls = true) (hcat : as.all (fun v => v.category == 1) = true) (hlen : as.length ≤ maxL)
    (body : ∀ X : zX, zLn X = ln → zG_of X = G → zR_of X = zRm d mc ms → zN X = maxL → ZC X cc y d → zEnd X ret mc ms Qf Xf → Z X 0 as [] h 0 0) : CT ln G y cc maxL ret d as h mc ms Qf Xf := by
  intro sz
  have hcat' : ∀ v ∈ as, v.category = 1 := fun v hv => by
    have := List.all_eq_true.mp hcat v hv
    simpa using this
  refine vx_ofW (cc := cc) (maxL := maxL) (ret := ret) hy rfl ?_
  intro p e s m args below meth c s₁ B hml htab hv
  obtain ⟨rfl, hsz, hP, hK, hBG⟩ := hv
  have hts : ∀ w ∈ zW, w.before as.toArray s = true := fun w hw => atoms_spec (ws := Cond.code y cc maxL ret :: zW) B.pre w (List.mem_cons_of_mem _ hw)
  rw [lg_entry_eq]
  have hln : (lg_sl as).length = as.length := zsl_len as hcat'
  have he := lv_entry as (n := maxL) (by rw [hln]; exact hlen)
  refine body (p, ln, e, zRm d mc ms, s, m, as.toArray, below, meth, c, G, zA h sz, maxL, vx_MQ below (zQc G (zA h sz) Qf) (zXc G (zA h sz) Xf) as.toArray s mc ms (zA h sz)) rfl rfl rfl rfl
    ⟨B.exec, B.bytes, hml, findClass_of_methodNamed B.named, hts, hK, hBG, fun q hq => Or.inr (by rw [← hsz]; exact hq), B.notSynchronized, (name_of_methodNamed B.named B.method).1, Nat.le_refl _, Nat.le_refl _, htr⟩
    ⟨rfl, B.returns, htab⟩ s.heap [] _ hP va_S.rf (fun q hq => Or.inl hq) ⟨he.1, he.2.1, fun i v hi => ⟨?_, hcat' v (List.mem_of_getElem? hi)⟩⟩
  have := zargs_mem as 0 hcat' i v hi
  rw [Nat.zero_add] at this
  exact he.2.2 _ this
/-- weaker ends -/
theorem CT.mono {ln : Launch} {G : zG} {y : MethodName} {cc : ByteArray} {maxL : Nat} {ret : Option FieldType} {d : Nat} {as : List Value} {h : zH} {mc ms : Nat} {Qf Qf' : Option Value → zH → Prop} {Xf Xf' : String → zH → Prop} (h0 : CT ln G y cc maxL ret d as h mc ms Qf Xf) (hq : ∀ v h', Qf v h' → Qf' v h') (hx : ∀ E h', Xf E h' → Xf' E h') : CT ln G y cc maxL ret d as h mc ms Qf' Xf' := by
  intro sz p e h1 h2 h3 s m args below h4 h5 h6 h7
  obtain ⟨n, o, a1, a2, a3, a4⟩ := h0 sz p e h1 h2 h3 s m args below h4 h5 h6 h7
  refine ⟨n, o, a1, a2, a3, ?_⟩
  rcases a4 with ⟨⟨v, h', b1, b2, b3⟩, b4⟩ | ⟨q, b1, E, ce, L, ⟨h', b2, b3⟩, b4⟩
  · exact Or.inl ⟨⟨v, h', b1, hq _ _ b2, b3⟩, b4⟩
  · exact Or.inr ⟨q, b1, E, ce, L, ⟨h', hx _ _ b2, b3⟩, b4⟩

section ZR
variable {X : zX} {cc : ByteArray} {y : MethodName} {d : Nat} {pc : Nat} {l st : List Value} {h : zH} {k n : Nat}

theorem zRunEnd {p : Program} {ln : Launch} {e : Env} {R : Room} {s : State} {m : MethodId} {args : Array Value} {below : List Frame} {meth : Method} {c : Code} {G : zG} {A : Nat → Prop} {nL : Nat} {Q : State → Prop} {H : Heap} {locs : List Loc} {ls : Array Slot} {mc ms : Nat} {a : Array Value} {st0 : List Value} {Qf : Option Value → zH → Prop} {Xf : String → zH → Prop}
    (hS : va_S A s.heap H locs) (hdom : ∀ q, h q ≠ none → A q) (hA : ∀ q, s.heap.size ≤ q → A q) (hl : zL ls nL l)
    (hr : vx_Run p ln e R s m args below meth c H locs k n mc ms (F0 m pc ls st0) st (zQc G (zA h H.size) Qf a) (zXc G (zA h H.size) Xf) (zA h H.size))
    (kk : ∀ (v : Option Value) (h' : zH), Qf v h' → Z (p, ln, e, R, s, m, args, below, meth, c, G, A, nL, Q) (pc + 3) l (v.toList ++ st) h' (k + mc) (n + ms))
    (kx : ∀ (E : String) (h' : zH), Xf E h' → ZT (p, ln, e, R, s, m, args, below, meth, c, G, A, nL, Q) pc l st h' (k + mc) (n + ms) E) :
    W p ln e R s m args below meth c H locs k n Q (F0 m pc ls st0) := by
  intro T hT X'
  have hA1 : ∀ q, zA h H.size q → A q := fun q hq => by
    rcases hq with hq | hq
    · exact hdom q hq
    · exact hA q (Nat.le_trans hS.1 hq)
  rcases hr T hT X' with ⟨v, st₀, t, T', L, h0, X2, hL, e1, e2, ⟨v', h', hv, hq, hh, hF, hdm⟩, sp⟩ | ⟨q, st₀, t, T', L, E, ce, h0, X2, hL, e1, e2, ⟨h', hq, hh, hF, hdm⟩, hce, hcv, hcl, sp⟩
  · cases hv
    obtain ⟨k1, k2, k3⟩ := vx_keep h0 e1 hS (fun q _ => hA1 q) hA1 hL hF
    obtain ⟨t2, a1, b1⟩ := kk v h' hq T'.heap (locs ++ L) ls (by rw [e1]; exact hh) k3 (fun q hq => hA1 q (hdm q hq)) hl T' rfl X2
    exact ⟨t2, sp t2 a1, b1⟩
  · obtain ⟨k1, k2, k3⟩ := vx_keep h0 e1 hS (fun q _ => hA1 q) hA1 hL hF
    obtain ⟨t2, a1, b1⟩ := kx E h' hq T'.heap (locs ++ L) ls q ce (by rw [e1]; exact hh) k3 (fun q hq => hA1 q (hdm q hq)) hl (by rw [e1]; exact hce) hcv hcl T' rfl X2
    exact ⟨t2, sp.trans a1, b1⟩
theorem zRun_of {p : Program} {ln : Launch} {e : Env} {R : Room} {s : State} {m : MethodId} {args : Array Value} {below : List Frame} {meth : Method} {c : Code} {H : Heap} {locs : List Loc} {mc ms : Nat} {g : JFrame} {Qa : State → Outcome → State → Prop} {XC : String → State → State → Prop} {free : Addr → Prop} (h : va_Run p ln e R s m args below meth c H locs k n mc ms g st Qa free) : vx_Run p ln e R s m args below meth c H locs k n mc ms g st Qa XC free := fun T hT X => Or.inl (h T hT X)
theorem zSeen {s U : State} {args : Array Value} {G : zG} {A : Nat → Prop} {H : Heap} {locs : List Loc} (hS : va_S A s.heap H locs) (hdom : ∀ q, h q ≠ none → A q) (hA : ∀ q, s.heap.size ≤ q → A q) (hP : zHold G.1 h H) (hK : zK G s) (hBG : zBG G A s s.heap) {as : List Value} (hU : U.heap = H) (hW : s.WarmedH U.vm) : zPc G h H.size as as.toArray U := by
  subst hU
  refine ⟨rfl, rfl, hP, hK.moved hW.alike, zBG.narrow (A := A) (zBG.warm hW (hBG.kept hS.2.1)) (fun q hq => ?_)⟩
  rcases hq with hq | hq
  · exact hdom q hq
  · exact hA q (Nat.le_trans hS.1 hq)

theorem Z.callV (C : ZC X cc y d) {index : Nat} {y2 : MethodName} {cc2 : ByteArray} {maxL d2 mc ms : Nat} {ret : Option FieldType} {as sk : List Value} {Qf : Option Value → zH → Prop} {Xf : String → zH → Prop} {ci N : Nat} {T : u_T} {fs : List Value} {b : Nat} (hlink : Cond.methodLink y.cls index y2 ∈ zW) (hini : Cond.initialized y2.cls ∈ zW) (hcode : Cond.code y2 cc2 maxL ret ∈ zW) (hne : y2.cls ≠ "java/lang/invoke/MethodHandle" ∧ y2.cls ≠ "java/lang/invoke/VarHandle") (hpar : (parseMethodDescriptor y2.desc).map (fun d => d.parameters.length) = some as.length) (hmaxL : maxL ≤ 19) (hc : vwCl[ci]? = some (y2.cls, T, N)) (hinst : Cond.instanceMethod y2 ∈ zW) (hsel : Cond.selects y2.cls y2 y2 ∈ zW) (hd : decode cc pc = .ok (.invokevirtual index, 3)) (ho : h b = some (eO ci fs)) (hct : CT (zLn X) (zG_of X) y2 cc2 maxL ret d2 (.ref b :: as) h mc ms Qf Xf) (hsk : as.reverse ++ .ref b :: st = sk) (hd2 : d2 + 1 ≤ d) (hcat : (st.map fun v => v.category).sum ≤ 8) (hk : k + mc ≤ (zR_of X).cells) (hn : n + ms ≤ (zR_of X).slots) (kk : ∀ (v : Option Value) (h' : zH), Qf v h' → Z X (pc + 3) l (v.toList ++ st) h' (k + mc) (n + ms)) (kx : ∀ (E : String) (h' : zH), Xf E h' → ZT X pc l st h' (k + mc) (n + ms) E) : Z X pc l sk h k n := by
  subst hsk
  obtain ⟨p, ln, e, R, s, m, args, below, meth, c, G, A, nL, Q⟩ := X
  obtain ⟨hx, hb, hml, hown, hts, hK, hBG, hA, hlk, hnm, hfr, hlo, htr⟩ := C
  intro H locs ls hP hS hdom hl
  have hfr2 : (zRm d2 mc ms).frames + 1 ≤ R.frames := Nat.le_trans hd2 hfr
  have hlo2 : 8 + (maxL + 11) + (zRm d2 mc ms).locals ≤ R.locals := by
    refine Nat.le_trans ?_ hlo
    show 8 + (maxL + 11) + 38 * d2 ≤ 38 * d
    omega
  have hplen : ∀ sig, parseMethodDescriptor y2.desc = some sig → as.length = sig.parameters.length := fun sig q => by
    rw [q] at hpar
    exact (Option.some.inj hpar).symm
  have hcb : CallB R s args y.cls index y2 cc2 maxL ret (Cond.code y2 cc2 maxL ret :: zW) (zRm d2 mc ms) mc ms as.length := ⟨rfl, rfl, hfr2, hlo2, zPay hts hcode, List.mem_cons_self, hts _ hcode, hts _ hini, hne, hplen, hts _ hlink⟩
  have hfix : CallFix p m c cc nL s args zW y.cls := ⟨hx, hb, hml, hown, hts⟩
  refine zRunEnd hS hdom hA hl (vx_runV hfix (hct H.size) ⟨hcb, hts _ hinst, hts _ hsel⟩ ⟨zPc_blind _ _ _ _, va_recv hK (hP.one ho) hc (q0 := 0) rfl, fun U hU hW => zSeen (args := args) hS hdom hA hP hK hBG hU hW⟩ rfl rfl hl.1 rfl (lv_room hcat) hd ⟨hk, hn⟩) kk kx
theorem Z.callS (C : ZC X cc y d) {index : Nat} {y2 : MethodName} {cc2 : ByteArray} {maxL d2 mc ms : Nat} {ret : Option FieldType} {as sk : List Value} {Qf : Option Value → zH → Prop} {Xf : String → zH → Prop} (hlink : Cond.methodLink y.cls index y2 ∈ zW) (hini : Cond.initialized y2.cls ∈ zW) (hcode : Cond.code y2 cc2 maxL ret ∈ zW) (hne : y2.cls ≠ "java/lang/invoke/MethodHandle" ∧ y2.cls ≠ "java/lang/invoke/VarHandle") (hpar : (parseMethodDescriptor y2.desc).map (fun d => d.parameters.length) = some as.length) (hmaxL : maxL ≤ 19) (hstat : Cond.static y2 ∈ zW) (hd : decode cc pc = .ok (.invokestatic index, 3)) (hct : CT (zLn X) (zG_of X) y2 cc2 maxL ret d2 as h mc ms Qf Xf) (hsk : as.reverse ++ st = sk) (hd2 : d2 + 1 ≤ d) (hcat : (st.map fun v => v.category).sum ≤ 8) (hk : k + mc ≤ (zR_of X).cells) (hn : n + ms ≤ (zR_of X).slots) (kk : ∀ (v : Option Value) (h' : zH), Qf v h' → Z X (pc + 3) l (v.toList ++ st) h' (k + mc) (n + ms)) (kx : ∀ (E : String) (h' : zH), Xf E h' → ZT X pc l st h' (k + mc) (n + ms) E) : Z X pc l sk h k n := by
  subst hsk
  obtain ⟨p, ln, e, R, s, m, args, below, meth, c, G, A, nL, Q⟩ := X
  obtain ⟨hx, hb, hml, hown, hts, hK, hBG, hA, hlk, hnm, hfr, hlo, htr⟩ := C
  intro H locs ls hP hS hdom hl
  have hfr2 : (zRm d2 mc ms).frames + 1 ≤ R.frames := Nat.le_trans hd2 hfr
  have hlo2 : 8 + (maxL + 11) + (zRm d2 mc ms).locals ≤ R.locals := by
    refine Nat.le_trans ?_ hlo
    show 8 + (maxL + 11) + 38 * d2 ≤ 38 * d
    omega
  have hplen : ∀ sig, parseMethodDescriptor y2.desc = some sig → as.length = sig.parameters.length := fun sig q => by
    rw [q] at hpar
    exact (Option.some.inj hpar).symm
  have hcb : CallB R s args y.cls index y2 cc2 maxL ret (Cond.code y2 cc2 maxL ret :: zW) (zRm d2 mc ms) mc ms as.length := ⟨rfl, rfl, hfr2, hlo2, zPay hts hcode, List.mem_cons_self, hts _ hcode, hts _ hini, hne, hplen, hts _ hlink⟩
  have hfix : CallFix p m c cc nL s args zW y.cls := ⟨hx, hb, hml, hown, hts⟩
  refine zRunEnd hS hdom hA hl (vx_runS hfix (hct H.size) ⟨hcb, hts _ hstat⟩ ⟨zPc_blind _ _ _ _, fun U hU hW => zSeen (args := args) hS hdom hA hP hK hBG hU hW⟩ rfl rfl hl.1 rfl (lv_room hcat) hd ⟨hk, hn⟩) kk kx
theorem Z.callI (C : ZC X cc y d) {index : Nat} {y2 : MethodName} {cc2 : ByteArray} {maxL d2 mc ms : Nat} {as sk : List Value} {Qf : Option Value → zH → Prop} {b : Nat} (hlink : Cond.methodLink y.cls index y2 ∈ zW) (hini : Cond.initialized y2.cls ∈ zW) (hcode : Cond.code y2 cc2 maxL none ∈ zW) (hne : y2.cls ≠ "java/lang/invoke/MethodHandle" ∧ y2.cls ≠ "java/lang/invoke/VarHandle") (hpar : (parseMethodDescriptor y2.desc).map (fun d => d.parameters.length) = some as.length) (hmaxL : maxL ≤ 19) (hin1 : y2.name = "<init>") (hinst : Cond.instanceMethod y2 ∈ zW) (hd : decode cc pc = .ok (.invokespecial index, 3)) (hct : CT (zLn X) (zG_of X) y2 cc2 maxL none d2 (.ref b :: as) h mc ms Qf zNo) (hsk : as.reverse ++ .ref b :: st = sk) (hd2 : d2 + 1 ≤ d) (hcat : (st.map fun v => v.category).sum ≤ 8) (hk : k + mc ≤ (zR_of X).cells) (hn : n + ms ≤ (zR_of X).slots) (kk : ∀ (v : Option Value) (h' : zH), Qf v h' → Z X (pc + 3) l (v.toList ++ st) h' (k + mc) (n + ms)) : Z X pc l sk h k n := by
  subst hsk
  obtain ⟨p, ln, e, R, s, m, args, below, meth, c, G, A, nL, Q⟩ := X
  obtain ⟨hx, hb, hml, hown, hts, hK, hBG, hA, hlk, hnm, hfr, hlo, htr⟩ := C
  intro H locs ls hP hS hdom hl
  have hfr2 : (zRm d2 mc ms).frames + 1 ≤ R.frames := Nat.le_trans hd2 hfr
  have hlo2 : 8 + (maxL + 11) + (zRm d2 mc ms).locals ≤ R.locals := by
    refine Nat.le_trans ?_ hlo
    show 8 + (maxL + 11) + 38 * d2 ≤ 38 * d
    omega
  have hplen : ∀ sig, parseMethodDescriptor y2.desc = some sig → as.length = sig.parameters.length := fun sig q => by
    rw [q] at hpar
    exact (Option.some.inj hpar).symm
  have hcb : CallB R s args y.cls index y2 cc2 maxL none (Cond.code y2 cc2 maxL none :: zW) (zRm d2 mc ms) mc ms as.length := ⟨rfl, rfl, hfr2, hlo2, zPay hts hcode, List.mem_cons_self, hts _ hcode, hts _ hini, hne, hplen, hts _ hlink⟩
  have hfix : CallFix p m c cc nL s args zW y.cls := ⟨hx, hb, hml, hown, hts⟩
  refine zRunEnd (Xf := zNo) hS hdom hA hl (zRun_of (va_runI hfix (zMet (hct H.size) zNo_c) ⟨hcb, hin1, hts _ hinst⟩ ⟨zPc_blind _ _ _ _, fun U hU hW => zSeen (args := args) hS hdom hA hP hK hBG hU hW⟩ rfl rfl hl.1 rfl (lv_room hcat) hd ⟨hk, hn⟩)) kk (fun E h' q => q.elim)
theorem Z.objInit (C : ZC X cc y d) {index b : Nat} (hlink : Cond.methodLink y.cls index objectInit ∈ zW) (hinst : Cond.instanceMethod objectInit ∈ zW) (hcode : Cond.code objectInit ⟨#[0xb1]⟩ 1 none ∈ zW) (hd : decode cc pc = .ok (.invokespecial index, 3)) (hd1 : 1 ≤ d) (hcat : (st.map fun v => v.category).sum ≤ 8) (kk : Z X (pc + 3) l st h k n) : Z X pc l (.ref b :: st) h k n := by
  obtain ⟨p, ln, e, R, s, m, args, below, meth, c, G, A, nL, Q⟩ := X
  obtain ⟨hx, hb, hml, hown, hts, hK, hBG, hA, hlk, hnm, hfr, hlo, htr⟩ := C
  intro H locs ls hP hS hdom hl
  refine W.objInit hx hb hown (hts _ hlink) (hts _ hinst) (hts _ hcode) rfl (by rw [hml]; exact hl.1) rfl hd (Nat.le_trans hd1 hfr) ?_ (kk H locs ls hP hS hdom hl)
  show 2 * 0 + _ + 12 ≤ _
  omega

theorem Z.iret (C : ZC X cc y d) {mc ms : Nat} {Qf : Option Value → zH → Prop} {Xf : String → zH → Prop} {x : Int} (E : zEnd X (some .int) mc ms Qf Xf) (hd : decode cc pc = .ok (.ireturn, 1)) (hk : k ≤ mc) (hn : n ≤ ms) (hq : Qf (some (vI x)) h) : Z X pc l [vI x] h k n := by
  obtain ⟨p, ln, e, R, s, m, args, below, meth, c, G, A, nL, Q⟩ := X
  obtain ⟨hx, hb, hml, hown, hts, hK, hBG, hA, hlk, hnm, hfr, hlo, htr⟩ := C
  intro H locs ls hP hS hdom hl
  obtain ⟨rfl, hr, -⟩ := E
  exact W.widen hk hn (vx_ret (W.iret hx hb hr (fun t ht hW => ⟨_, h, rfl, hq, by rw [ht]; exact hP, hS.F ht, hdom⟩) hS.2.2 hd hlk))
theorem Z.zret (C : ZC X cc y d) {mc ms : Nat} {Qf : Option Value → zH → Prop} {Xf : String → zH → Prop} {x : Int} {ty : FieldType} (E : zEnd X (some ty) mc ms Qf Xf) (hd : decode cc pc = .ok (.ireturn, 1)) (hnar : narrow ty (vI x) = vI x) (hk : k ≤ mc) (hn : n ≤ ms) (hq : Qf (some (vI x)) h) : Z X pc l [vI x] h k n := by
  obtain ⟨p, ln, e, R, s, m, args, below, meth, c, G, A, nL, Q⟩ := X
  obtain ⟨hx, hb, hml, hown, hts, hK, hBG, hA, hlk, hnm, hfr, hlo, htr⟩ := C
  intro H locs ls hP hS hdom hl
  obtain ⟨rfl, hr, -⟩ := E
  exact W.widen hk hn (vx_ret (W.zret hx hb hr hnar (fun t ht hW => ⟨_, h, rfl, hq, by rw [ht]; exact hP, hS.F ht, hdom⟩) hS.2.2 hd hlk))
theorem Z.vret (C : ZC X cc y d) {mc ms : Nat} {Qf : Option Value → zH → Prop} {Xf : String → zH → Prop} (E : zEnd X none mc ms Qf Xf) (hd : decode cc pc = .ok (.return_, 1)) (hk : k ≤ mc) (hn : n ≤ ms) (hq : Qf none h) : Z X pc l [] h k n := by
  obtain ⟨p, ln, e, R, s, m, args, below, meth, c, G, A, nL, Q⟩ := X
  obtain ⟨hx, hb, hml, hown, hts, hK, hBG, hA, hlk, hnm, hfr, hlo, htr⟩ := C
  intro H locs ls hP hS hdom hl
  obtain ⟨rfl, hr, -⟩ := E
  exact W.widen hk hn (vx_ret (W.vret hx hb hr (fun t ht hW => ⟨_, h, rfl, hq, by rw [ht]; exact hP, hS.F ht, hdom⟩) hS.2.2 hd hlk))
theorem Z.aret (C : ZC X cc y d) {mc ms : Nat} {Qf : Option Value → zH → Prop} {Xf : String → zH → Prop} {a : Nat} {rt : FieldType} (E : zEnd X (some rt) mc ms Qf Xf) (hrt : (∃ n, rt = .object n) ∨ ∃ t, rt = .array t) (hd : decode cc pc = .ok (.areturn, 1)) (hk : k ≤ mc) (hn : n ≤ ms) (hq : Qf (some (.ref a)) h) : Z X pc l [.ref a] h k n := by
  obtain ⟨p, ln, e, R, s, m, args, below, meth, c, G, A, nL, Q⟩ := X
  obtain ⟨hx, hb, hml, hown, hts, hK, hBG, hA, hlk, hnm, hfr, hlo, htr⟩ := C
  intro H locs ls hP hS hdom hl
  obtain ⟨rfl, hr, -⟩ := E
  exact W.widen hk hn (vx_ret (W.aret hx hb hr hrt (Or.inr ⟨a, rfl⟩) (fun t ht hW => ⟨_, h, rfl, hq, by rw [ht]; exact hP, hS.F ht, hdom⟩) hS.2.2 hd hlk))
/-- a callee's exception goes on to the caller -/
theorem ZT.out (C : ZC X cc y d) {mc ms : Nat} {Qf : Option Value → zH → Prop} {Xf : String → zH → Prop} {ret : Option FieldType} {Ex : String} (E : zEnd X ret mc ms Qf Xf) (hk : k ≤ mc) (hn : n ≤ ms) (hq : Xf Ex h) : ZT X pc l st h k n Ex := by
  obtain ⟨p, ln, e, R, s, m, args, below, meth, c, G, A, nL, Q⟩ := X
  obtain ⟨hx, hb, hml, hown, hts, hK, hBG, hA, hlk, hnm, hfr, hlo, htr⟩ := C
  obtain ⟨rfl, hr, htab⟩ := E
  intro H locs ls q9 ce hP hS hdom hl hce hcv hcl
  exact vx_out (fun x hx => (htab x hx).elim) hlk hce hcv hcl (fun t ht hW => ⟨h, hq, by rw [ht]; exact hP, hS.F ht, hdom⟩) hS.2.2 hk hn

theorem Z.throwS (C : ZC X cc y d) {cls text : String} {names : List String} {ik is ic mc ms : Nat} {Qf : Option Value → zH → Prop} {Xf : String → zH → Prop} {ret : Option FieldType} (E : zEnd X ret mc ms Qf Xf) (hcls : Bundle.fit cls = true) (hnames : names.all Bundle.fit = true) (hlen : names.length = 2)
    (hk9 : Cond.classLink y.cls ik cls ∈ zW) (hini : Cond.initialized cls ∈ zW) (htx : (y.cls, is, text) ∈ zTexts) (hat : (vx_atS y.cls ic cls names).all (fun w => decide (w ∈ zW)) = true)
    (d0 : decode cc pc = .ok (.new ik, 3)) (d3 : decode cc (pc + 3) = .ok (.dup, 1)) (d4 : decode cc (pc + 4) = .ok (.ldc is, 2)) (d6 : decode cc (pc + 6) = .ok (.invokespecial ic, 3)) (d9 : decode cc (pc + 9) = .ok (.athrow, 1))
    (hd6 : 6 ≤ d) (hcat : (st.map fun v => v.category).sum ≤ 8) (hk1 : k + 1 ≤ mc) (hn1 : n + 6 ≤ ms) (hk : k + 1 ≤ (zR_of X).cells) (hn : n + 6 ≤ (zR_of X).slots) (hq : Xf cls h) : Z X pc l st h k n := by
  obtain ⟨p, ln, e, R, s, m, args, below, meth, c, G, A, nL, Q⟩ := X
  obtain ⟨hx, hb, hml, hown, hts, hK, hBG, hA, hlk, hnm, hfr, hlo, htr⟩ := C
  intro H locs ls hP hS hdom hl
  obtain ⟨rfl, hr, htab⟩ := E
  obtain ⟨sa, hsa⟩ := hBG.2.2.2.2.2.2.2.2.2 _ htx
  have hin : ∀ w ∈ vx_atS y.cls ic cls names, w ∈ zW := fun w hw => by
    have := List.all_eq_true.mp hat w hw
    simpa using this
  refine vx_throwS (text := text) (names := names) (A := A) hx hb htr hown hcls (fun x hx => List.all_eq_true.mp hnames x hx) (hts _ hk9) (hts _ hini) hsa (fun w hw => hts w (hin w hw)) (fun w hw => ?_) hBG.2.2.2.2.2.2.2.1 hBG.2.2.2.2.2.2.2.2.1 hS (hl.1.trans hml.symm) d0 d3 d4 d6 d9 (fun x hx => (htab x hx).elim) ?_ ?_ hk hn hlk (fun t hW hsz hq9 => ⟨h, hq, hP.kept hq9, ⟨Nat.le_trans hS.1 hsz, fun q h1 h2 => by rw [hq9 q (Nat.lt_of_lt_of_le h1 hS.1)]; exact hS.2.1 q h1 h2⟩, hdom⟩) hS.2.2 hk1 hn1
  · have hw' : w ∈ zW := by
      rcases List.mem_cons.mp hw with rfl | hw
      · exact hk9
      · rcases List.mem_cons.mp hw with rfl | hw
        · exact hini
        · exact hin w hw
    show (_ || _) = true
    rw [zW_good hw', Bool.or_true]
  · rw [hlen]; omega
  · rw [hlen]; omega

theorem Z.throwSW (C : ZC X cc y d) {cls text : String} {names : List String} {ik is ic mc ms : Nat} {Qf : Option Value → zH → Prop} {Xf : String → zH → Prop} {ret : Option FieldType} (E : zEnd X ret mc ms Qf Xf) (hcls : Bundle.fit cls = true) (hnames : names.all Bundle.fit = true) (hlen : names.length = 2)
    (hk9 : Cond.classLink y.cls ik cls ∈ zW) (hini : Cond.initialized cls ∈ zW) (htx : (y.cls, is, text) ∈ zTexts) (hat : (vx_atS y.cls ic cls names).all (fun w => decide (w ∈ zW)) = true)
    (d0 : decode cc pc = .ok (.new ik, 3)) (d3 : decode cc (pc + 3) = .ok (.dup, 1)) (d4 : decode cc (pc + 4) = .ok (.ldc_w is, 3)) (d6 : decode cc (pc + 7) = .ok (.invokespecial ic, 3)) (d9 : decode cc (pc + 10) = .ok (.athrow, 1))
    (hd6 : 6 ≤ d) (hcat : (st.map fun v => v.category).sum ≤ 8) (hk1 : k + 1 ≤ mc) (hn1 : n + 6 ≤ ms) (hk : k + 1 ≤ (zR_of X).cells) (hn : n + 6 ≤ (zR_of X).slots) (hq : Xf cls h) : Z X pc l st h k n := by
  obtain ⟨p, ln, e, R, s, m, args, below, meth, c, G, A, nL, Q⟩ := X
  obtain ⟨hx, hb, hml, hown, hts, hK, hBG, hA, hlk, hnm, hfr, hlo, htr⟩ := C
  intro H locs ls hP hS hdom hl
  obtain ⟨rfl, hr, htab⟩ := E
  obtain ⟨sa, hsa⟩ := hBG.2.2.2.2.2.2.2.2.2 _ htx
  have hin : ∀ w ∈ vx_atS y.cls ic cls names, w ∈ zW := fun w hw => by
    have := List.all_eq_true.mp hat w hw
    simpa using this
  refine vx_throwSW (text := text) (names := names) (A := A) hx hb htr hown hcls (fun x hx => List.all_eq_true.mp hnames x hx) (hts _ hk9) (hts _ hini) hsa (fun w hw => hts w (hin w hw)) (fun w hw => ?_) hBG.2.2.2.2.2.2.2.1 hBG.2.2.2.2.2.2.2.2.1 hS (hl.1.trans hml.symm) d0 d3 d4 d6 d9 (fun x hx => (htab x hx).elim) ?_ ?_ hk hn hlk (fun t hW hsz hq9 => ⟨h, hq, hP.kept hq9, ⟨Nat.le_trans hS.1 hsz, fun q h1 h2 => by rw [hq9 q (Nat.lt_of_lt_of_le h1 hS.1)]; exact hS.2.1 q h1 h2⟩, hdom⟩) hS.2.2 hk1 hn1
  · have hw' : w ∈ zW := by
      rcases List.mem_cons.mp hw with rfl | hw
      · exact hk9
      · rcases List.mem_cons.mp hw with rfl | hw
        · exact hini
        · exact hin w hw
    show (_ || _) = true
    rw [zW_good hw', Bool.or_true]
  · rw [hlen]; omega
  · rw [hlen]; omega

end ZR
end
section
theorem zz_last : True := trivial
end
