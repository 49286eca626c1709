section
-- ===== PART A: goes FIRST, ahead of the names: the tables' words, and 'selects' of the private methods out of them =====
/-- a private method of a class that the tables say can be made, by its rows of tables_1 -/
def lw_okq (q : MethodName × Nat) : Prop := (q.1.cls ≠ "java/lang/invoke/MethodHandle" ∧ q.1.cls ≠ "java/lang/invoke/VarHandle") ∧ Cond.instantiable q.1.cls q.2 ∈ tables_1 ∧ Cond.privateMethod q.1 ∈ tables_1 ∧ Cond.instanceMethod q.1 ∈ tables_1
theorem lw_p0 : lw_okq (⟨"RingThreads$Ring", "putThread", "(II)V"⟩, 19) := ⟨⟨by decide +kernel, by decide +kernel⟩, List.mem_of_getElem? (i := 46) (by decide +kernel), List.mem_of_getElem? (i := 281) (by decide +kernel), List.mem_of_getElem? (i := 282) (by decide +kernel)⟩
theorem lw_p1 : lw_okq (⟨"java/lang/Throwable", "fillInStackTrace", "(I)Ljava/lang/Throwable;"⟩, 6) := ⟨⟨by decide +kernel, by decide +kernel⟩, List.mem_of_getElem? (i := 363) (by decide +kernel), List.mem_of_getElem? (i := 361) (by decide +kernel), List.mem_of_getElem? (i := 362) (by decide +kernel)⟩
theorem lw_p2 : lw_okq (⟨"RingThreads", "withNails", "(J)J"⟩, 7) := ⟨⟨by decide +kernel, by decide +kernel⟩, List.mem_of_getElem? (i := 18) (by decide +kernel), List.mem_of_getElem? (i := 405) (by decide +kernel), List.mem_of_getElem? (i := 406) (by decide +kernel)⟩
theorem lw_p3 : lw_okq (⟨"RingThreads", "needNail", "(I)V"⟩, 7) := ⟨⟨by decide +kernel, by decide +kernel⟩, List.mem_of_getElem? (i := 18) (by decide +kernel), List.mem_of_getElem? (i := 413) (by decide +kernel), List.mem_of_getElem? (i := 414) (by decide +kernel)⟩
theorem lw_p4 : lw_okq (⟨"RingThreads", "withSpools", "(J)J"⟩, 7) := ⟨⟨by decide +kernel, by decide +kernel⟩, List.mem_of_getElem? (i := 18) (by decide +kernel), List.mem_of_getElem? (i := 447) (by decide +kernel), List.mem_of_getElem? (i := 448) (by decide +kernel)⟩
theorem lw_p5 : lw_okq (⟨"RingThreads", "withChordsLying", "(J)J"⟩, 7) := ⟨⟨by decide +kernel, by decide +kernel⟩, List.mem_of_getElem? (i := 18) (by decide +kernel), List.mem_of_getElem? (i := 463) (by decide +kernel), List.mem_of_getElem? (i := 464) (by decide +kernel)⟩
theorem lw_p6 : lw_okq (⟨"RingThreads", "withSquares", "(J)J"⟩, 7) := ⟨⟨by decide +kernel, by decide +kernel⟩, List.mem_of_getElem? (i := 18) (by decide +kernel), List.mem_of_getElem? (i := 471) (by decide +kernel), List.mem_of_getElem? (i := 472) (by decide +kernel)⟩
theorem lw_p7 : lw_okq (⟨"RingThreads", "withChord", "(JII)J"⟩, 7) := ⟨⟨by decide +kernel, by decide +kernel⟩, List.mem_of_getElem? (i := 18) (by decide +kernel), List.mem_of_getElem? (i := 483) (by decide +kernel), List.mem_of_getElem? (i := 484) (by decide +kernel)⟩
theorem lw_p8 : lw_okq (⟨"RingThreads", "save", "()V"⟩, 7) := ⟨⟨by decide +kernel, by decide +kernel⟩, List.mem_of_getElem? (i := 18) (by decide +kernel), List.mem_of_getElem? (i := 515) (by decide +kernel), List.mem_of_getElem? (i := 516) (by decide +kernel)⟩
theorem lw_p9 : lw_okq (⟨"RingThreads", "copyTo", "([LRingThreads$Ring;I)V"⟩, 7) := ⟨⟨by decide +kernel, by decide +kernel⟩, List.mem_of_getElem? (i := 18) (by decide +kernel), List.mem_of_getElem? (i := 519) (by decide +kernel), List.mem_of_getElem? (i := 520) (by decide +kernel)⟩
theorem lw_p10 : lw_okq (⟨"RingThreadsModel", "fails", "(I)I"⟩, 16) := ⟨⟨by decide +kernel, by decide +kernel⟩, List.mem_of_getElem? (i := 702) (by decide +kernel), List.mem_of_getElem? (i := 766) (by decide +kernel), List.mem_of_getElem? (i := 767) (by decide +kernel)⟩
theorem lw_p11 : lw_okq (⟨"RingThreadsModel", "saves", "()V"⟩, 16) := ⟨⟨by decide +kernel, by decide +kernel⟩, List.mem_of_getElem? (i := 702) (by decide +kernel), List.mem_of_getElem? (i := 770) (by decide +kernel), List.mem_of_getElem? (i := 771) (by decide +kernel)⟩
theorem lw_p12 : lw_okq (⟨"RingThreadsModel", "unwinds", "()V"⟩, 16) := ⟨⟨by decide +kernel, by decide +kernel⟩, List.mem_of_getElem? (i := 702) (by decide +kernel), List.mem_of_getElem? (i := 774) (by decide +kernel), List.mem_of_getElem? (i := 775) (by decide +kernel)⟩
theorem lw_p13 : lw_okq (⟨"RingThreadsModel", "ofChord", "(II)I"⟩, 16) := ⟨⟨by decide +kernel, by decide +kernel⟩, List.mem_of_getElem? (i := 702) (by decide +kernel), List.mem_of_getElem? (i := 778) (by decide +kernel), List.mem_of_getElem? (i := 779) (by decide +kernel)⟩
theorem lw_p14 : lw_okq (⟨"RingThreadsModel", "shade", "(I)I"⟩, 16) := ⟨⟨by decide +kernel, by decide +kernel⟩, List.mem_of_getElem? (i := 702) (by decide +kernel), List.mem_of_getElem? (i := 782) (by decide +kernel), List.mem_of_getElem? (i := 783) (by decide +kernel)⟩
theorem lw_p15 : lw_okq (⟨"RingThreadsModel", "darkens", "(III)V"⟩, 16) := ⟨⟨by decide +kernel, by decide +kernel⟩, List.mem_of_getElem? (i := 702) (by decide +kernel), List.mem_of_getElem? (i := 786) (by decide +kernel), List.mem_of_getElem? (i := 787) (by decide +kernel)⟩
def lw_privs_1 : List (MethodName × Nat) := [(⟨"RingThreads$Ring", "putThread", "(II)V"⟩, 19), (⟨"java/lang/Throwable", "fillInStackTrace", "(I)Ljava/lang/Throwable;"⟩, 6), (⟨"RingThreads", "withNails", "(J)J"⟩, 7), (⟨"RingThreads", "needNail", "(I)V"⟩, 7), (⟨"RingThreads", "withSpools", "(J)J"⟩, 7), (⟨"RingThreads", "withChordsLying", "(J)J"⟩, 7), (⟨"RingThreads", "withSquares", "(J)J"⟩, 7), (⟨"RingThreads", "withChord", "(JII)J"⟩, 7), (⟨"RingThreads", "save", "()V"⟩, 7), (⟨"RingThreads", "copyTo", "([LRingThreads$Ring;I)V"⟩, 7), (⟨"RingThreadsModel", "fails", "(I)I"⟩, 16), (⟨"RingThreadsModel", "saves", "()V"⟩, 16), (⟨"RingThreadsModel", "unwinds", "()V"⟩, 16), (⟨"RingThreadsModel", "ofChord", "(II)I"⟩, 16), (⟨"RingThreadsModel", "shade", "(I)I"⟩, 16), (⟨"RingThreadsModel", "darkens", "(III)V"⟩, 16)]
theorem lw_r1 : ∀ q ∈ lw_privs_1, lw_okq q := List.forall_mem_cons.mpr ⟨lw_p0, List.forall_mem_cons.mpr ⟨lw_p1, List.forall_mem_cons.mpr ⟨lw_p2, List.forall_mem_cons.mpr ⟨lw_p3, List.forall_mem_cons.mpr ⟨lw_p4, List.forall_mem_cons.mpr ⟨lw_p5, List.forall_mem_cons.mpr ⟨lw_p6, List.forall_mem_cons.mpr ⟨lw_p7, List.forall_mem_cons.mpr ⟨lw_p8, List.forall_mem_cons.mpr ⟨lw_p9, List.forall_mem_cons.mpr ⟨lw_p10, List.forall_mem_cons.mpr ⟨lw_p11, List.forall_mem_cons.mpr ⟨lw_p12, List.forall_mem_cons.mpr ⟨lw_p13, List.forall_mem_cons.mpr ⟨lw_p14, List.forall_mem_cons.mpr ⟨lw_p15, fun _ h => absurd h List.not_mem_nil⟩⟩⟩⟩⟩⟩⟩⟩⟩⟩⟩⟩⟩⟩⟩⟩
theorem lw_p16 : lw_okq (⟨"RingThreadsModel", "laysCrossed", "(II)V"⟩, 16) := ⟨⟨by decide +kernel, by decide +kernel⟩, List.mem_of_getElem? (i := 702) (by decide +kernel), List.mem_of_getElem? (i := 790) (by decide +kernel), List.mem_of_getElem? (i := 791) (by decide +kernel)⟩
theorem lw_p17 : lw_okq (⟨"RingThreadsModel", "x", "(I)I"⟩, 16) := ⟨⟨by decide +kernel, by decide +kernel⟩, List.mem_of_getElem? (i := 702) (by decide +kernel), List.mem_of_getElem? (i := 794) (by decide +kernel), List.mem_of_getElem? (i := 795) (by decide +kernel)⟩
theorem lw_p18 : lw_okq (⟨"RingThreadsModel", "y", "(I)I"⟩, 16) := ⟨⟨by decide +kernel, by decide +kernel⟩, List.mem_of_getElem? (i := 702) (by decide +kernel), List.mem_of_getElem? (i := 804) (by decide +kernel), List.mem_of_getElem? (i := 805) (by decide +kernel)⟩
theorem lw_p19 : lw_okq (⟨"RingThreadsModel", "crosses", "(II)V"⟩, 16) := ⟨⟨by decide +kernel, by decide +kernel⟩, List.mem_of_getElem? (i := 702) (by decide +kernel), List.mem_of_getElem? (i := 811) (by decide +kernel), List.mem_of_getElem? (i := 812) (by decide +kernel)⟩
theorem lw_p20 : lw_okq (⟨"RingThreadsModel", "lengthOf", "(II)I"⟩, 16) := ⟨⟨by decide +kernel, by decide +kernel⟩, List.mem_of_getElem? (i := 702) (by decide +kernel), List.mem_of_getElem? (i := 818) (by decide +kernel), List.mem_of_getElem? (i := 819) (by decide +kernel)⟩
theorem lw_p21 : lw_okq (⟨"RingThreadsModel", "chordsOf", "(I)I"⟩, 16) := ⟨⟨by decide +kernel, by decide +kernel⟩, List.mem_of_getElem? (i := 702) (by decide +kernel), List.mem_of_getElem? (i := 835) (by decide +kernel), List.mem_of_getElem? (i := 836) (by decide +kernel)⟩
theorem lw_p22 : lw_okq (⟨"RingThreadsModel", "left", "(I)I"⟩, 16) := ⟨⟨by decide +kernel, by decide +kernel⟩, List.mem_of_getElem? (i := 702) (by decide +kernel), List.mem_of_getElem? (i := 839) (by decide +kernel), List.mem_of_getElem? (i := 840) (by decide +kernel)⟩
theorem lw_p23 : lw_okq (⟨"RingThreadsModel", "isNail", "(I)Z"⟩, 16) := ⟨⟨by decide +kernel, by decide +kernel⟩, List.mem_of_getElem? (i := 702) (by decide +kernel), List.mem_of_getElem? (i := 855) (by decide +kernel), List.mem_of_getElem? (i := 856) (by decide +kernel)⟩
theorem lw_p24 : lw_okq (⟨"RingThreadsModel", "refused", "(III)I"⟩, 16) := ⟨⟨by decide +kernel, by decide +kernel⟩, List.mem_of_getElem? (i := 702) (by decide +kernel), List.mem_of_getElem? (i := 859) (by decide +kernel), List.mem_of_getElem? (i := 860) (by decide +kernel)⟩
theorem lw_p25 : lw_okq (⟨"RingThreadsModel", "liesBetween", "(II)I"⟩, 16) := ⟨⟨by decide +kernel, by decide +kernel⟩, List.mem_of_getElem? (i := 702) (by decide +kernel), List.mem_of_getElem? (i := 863) (by decide +kernel), List.mem_of_getElem? (i := 864) (by decide +kernel)⟩
theorem lw_p26 : lw_okq (⟨"RingThreadsModel", "isBetween", "(III)Z"⟩, 16) := ⟨⟨by decide +kernel, by decide +kernel⟩, List.mem_of_getElem? (i := 702) (by decide +kernel), List.mem_of_getElem? (i := 867) (by decide +kernel), List.mem_of_getElem? (i := 868) (by decide +kernel)⟩
theorem lw_p27 : lw_okq (⟨"RingThreadsModel", "winds", "(I)V"⟩, 16) := ⟨⟨by decide +kernel, by decide +kernel⟩, List.mem_of_getElem? (i := 702) (by decide +kernel), List.mem_of_getElem? (i := 871) (by decide +kernel), List.mem_of_getElem? (i := 872) (by decide +kernel)⟩
theorem lw_p28 : lw_okq (⟨"RingThreadsModel", "bestWith", "(I)I"⟩, 16) := ⟨⟨by decide +kernel, by decide +kernel⟩, List.mem_of_getElem? (i := 702) (by decide +kernel), List.mem_of_getElem? (i := 883) (by decide +kernel), List.mem_of_getElem? (i := 884) (by decide +kernel)⟩
theorem lw_p29 : lw_okq (⟨"RingThreadsModel", "gained", "(III)I"⟩, 16) := ⟨⟨by decide +kernel, by decide +kernel⟩, List.mem_of_getElem? (i := 702) (by decide +kernel), List.mem_of_getElem? (i := 887) (by decide +kernel), List.mem_of_getElem? (i := 888) (by decide +kernel)⟩
theorem lw_p30 : lw_okq (⟨"RingThreadsModel", "lack", "(I)I"⟩, 16) := ⟨⟨by decide +kernel, by decide +kernel⟩, List.mem_of_getElem? (i := 702) (by decide +kernel), List.mem_of_getElem? (i := 891) (by decide +kernel), List.mem_of_getElem? (i := 892) (by decide +kernel)⟩
theorem lw_p31 : lw_okq (⟨"RingThreadsModel", "isNearer", "(II)Z"⟩, 16) := ⟨⟨by decide +kernel, by decide +kernel⟩, List.mem_of_getElem? (i := 702) (by decide +kernel), List.mem_of_getElem? (i := 895) (by decide +kernel), List.mem_of_getElem? (i := 896) (by decide +kernel)⟩
def lw_privs_2 : List (MethodName × Nat) := [(⟨"RingThreadsModel", "laysCrossed", "(II)V"⟩, 16), (⟨"RingThreadsModel", "x", "(I)I"⟩, 16), (⟨"RingThreadsModel", "y", "(I)I"⟩, 16), (⟨"RingThreadsModel", "crosses", "(II)V"⟩, 16), (⟨"RingThreadsModel", "lengthOf", "(II)I"⟩, 16), (⟨"RingThreadsModel", "chordsOf", "(I)I"⟩, 16), (⟨"RingThreadsModel", "left", "(I)I"⟩, 16), (⟨"RingThreadsModel", "isNail", "(I)Z"⟩, 16), (⟨"RingThreadsModel", "refused", "(III)I"⟩, 16), (⟨"RingThreadsModel", "liesBetween", "(II)I"⟩, 16), (⟨"RingThreadsModel", "isBetween", "(III)Z"⟩, 16), (⟨"RingThreadsModel", "winds", "(I)V"⟩, 16), (⟨"RingThreadsModel", "bestWith", "(I)I"⟩, 16), (⟨"RingThreadsModel", "gained", "(III)I"⟩, 16), (⟨"RingThreadsModel", "lack", "(I)I"⟩, 16), (⟨"RingThreadsModel", "isNearer", "(II)Z"⟩, 16)]
theorem lw_r2 : ∀ q ∈ lw_privs_2, lw_okq q := List.forall_mem_cons.mpr ⟨lw_p16, List.forall_mem_cons.mpr ⟨lw_p17, List.forall_mem_cons.mpr ⟨lw_p18, List.forall_mem_cons.mpr ⟨lw_p19, List.forall_mem_cons.mpr ⟨lw_p20, List.forall_mem_cons.mpr ⟨lw_p21, List.forall_mem_cons.mpr ⟨lw_p22, List.forall_mem_cons.mpr ⟨lw_p23, List.forall_mem_cons.mpr ⟨lw_p24, List.forall_mem_cons.mpr ⟨lw_p25, List.forall_mem_cons.mpr ⟨lw_p26, List.forall_mem_cons.mpr ⟨lw_p27, List.forall_mem_cons.mpr ⟨lw_p28, List.forall_mem_cons.mpr ⟨lw_p29, List.forall_mem_cons.mpr ⟨lw_p30, List.forall_mem_cons.mpr ⟨lw_p31, fun _ h => absurd h List.not_mem_nil⟩⟩⟩⟩⟩⟩⟩⟩⟩⟩⟩⟩⟩⟩⟩⟩
theorem lw_p32 : lw_okq (⟨"RingThreadsModel", "hasGain", "(I)Z"⟩, 16) := ⟨⟨by decide +kernel, by decide +kernel⟩, List.mem_of_getElem? (i := 702) (by decide +kernel), List.mem_of_getElem? (i := 899) (by decide +kernel), List.mem_of_getElem? (i := 900) (by decide +kernel)⟩
theorem lw_p33 : lw_okq (⟨"RingThreadsModel", "keepsGreys", "()V"⟩, 16) := ⟨⟨by decide +kernel, by decide +kernel⟩, List.mem_of_getElem? (i := 702) (by decide +kernel), List.mem_of_getElem? (i := 914) (by decide +kernel), List.mem_of_getElem? (i := 915) (by decide +kernel)⟩
theorem lw_p34 : lw_okq (⟨"RingThreadsModel", "turns", "(II)V"⟩, 16) := ⟨⟨by decide +kernel, by decide +kernel⟩, List.mem_of_getElem? (i := 702) (by decide +kernel), List.mem_of_getElem? (i := 918) (by decide +kernel), List.mem_of_getElem? (i := 919) (by decide +kernel)⟩
theorem lw_p35 : lw_okq (⟨"RingThreadsModel", "misfit", "()I"⟩, 16) := ⟨⟨by decide +kernel, by decide +kernel⟩, List.mem_of_getElem? (i := 702) (by decide +kernel), List.mem_of_getElem? (i := 922) (by decide +kernel), List.mem_of_getElem? (i := 923) (by decide +kernel)⟩
theorem lw_p36 : lw_okq (⟨"RingThreadsModel", "readsAll", "(Z)V"⟩, 16) := ⟨⟨by decide +kernel, by decide +kernel⟩, List.mem_of_getElem? (i := 702) (by decide +kernel), List.mem_of_getElem? (i := 938) (by decide +kernel), List.mem_of_getElem? (i := 939) (by decide +kernel)⟩
theorem lw_p37 : lw_okq (⟨"RingThreadsModel", "readsRow", "(Z)V"⟩, 16) := ⟨⟨by decide +kernel, by decide +kernel⟩, List.mem_of_getElem? (i := 702) (by decide +kernel), List.mem_of_getElem? (i := 942) (by decide +kernel), List.mem_of_getElem? (i := 943) (by decide +kernel)⟩
theorem lw_p38 : lw_okq (⟨"RingThreadsModel", "takes", "(II)I"⟩, 16) := ⟨⟨by decide +kernel, by decide +kernel⟩, List.mem_of_getElem? (i := 702) (by decide +kernel), List.mem_of_getElem? (i := 946) (by decide +kernel), List.mem_of_getElem? (i := 947) (by decide +kernel)⟩
theorem lw_p39 : lw_okq (⟨"RingThreadsModel", "sign", "()I"⟩, 16) := ⟨⟨by decide +kernel, by decide +kernel⟩, List.mem_of_getElem? (i := 702) (by decide +kernel), List.mem_of_getElem? (i := 950) (by decide +kernel), List.mem_of_getElem? (i := 951) (by decide +kernel)⟩
theorem lw_p40 : lw_okq (⟨"RingThreadsModel", "laysRow", "(IIIIZ)V"⟩, 16) := ⟨⟨by decide +kernel, by decide +kernel⟩, List.mem_of_getElem? (i := 702) (by decide +kernel), List.mem_of_getElem? (i := 954) (by decide +kernel), List.mem_of_getElem? (i := 955) (by decide +kernel)⟩
theorem lw_p41 : lw_okq (⟨"RingThreadsModel", "tellsNail", "(II)I"⟩, 16) := ⟨⟨by decide +kernel, by decide +kernel⟩, List.mem_of_getElem? (i := 702) (by decide +kernel), List.mem_of_getElem? (i := 978) (by decide +kernel), List.mem_of_getElem? (i := 979) (by decide +kernel)⟩
theorem lw_p42 : lw_okq (⟨"RingThreadsModel", "ends", "(I)I"⟩, 16) := ⟨⟨by decide +kernel, by decide +kernel⟩, List.mem_of_getElem? (i := 702) (by decide +kernel), List.mem_of_getElem? (i := 982) (by decide +kernel), List.mem_of_getElem? (i := 983) (by decide +kernel)⟩
theorem lw_p43 : lw_okq (⟨"RingThreadsModel", "tellsSpool", "(II)I"⟩, 16) := ⟨⟨by decide +kernel, by decide +kernel⟩, List.mem_of_getElem? (i := 702) (by decide +kernel), List.mem_of_getElem? (i := 990) (by decide +kernel), List.mem_of_getElem? (i := 991) (by decide +kernel)⟩
theorem lw_p44 : lw_okq (⟨"RingThreadsModel", "threadOf", "(I)I"⟩, 16) := ⟨⟨by decide +kernel, by decide +kernel⟩, List.mem_of_getElem? (i := 702) (by decide +kernel), List.mem_of_getElem? (i := 994) (by decide +kernel), List.mem_of_getElem? (i := 995) (by decide +kernel)⟩
theorem lw_p45 : lw_okq (⟨"RingThreadsModel", "tellsChord", "(III)I"⟩, 16) := ⟨⟨by decide +kernel, by decide +kernel⟩, List.mem_of_getElem? (i := 702) (by decide +kernel), List.mem_of_getElem? (i := 1002) (by decide +kernel), List.mem_of_getElem? (i := 1003) (by decide +kernel)⟩
theorem lw_p46 : lw_okq (⟨"RingThreadsModel", "tellsWound", "(II)I"⟩, 16) := ⟨⟨by decide +kernel, by decide +kernel⟩, List.mem_of_getElem? (i := 702) (by decide +kernel), List.mem_of_getElem? (i := 1010) (by decide +kernel), List.mem_of_getElem? (i := 1011) (by decide +kernel)⟩
theorem lw_p47 : lw_okq (⟨"RingThreadsModel", "tellsSquare", "(II)I"⟩, 16) := ⟨⟨by decide +kernel, by decide +kernel⟩, List.mem_of_getElem? (i := 702) (by decide +kernel), List.mem_of_getElem? (i := 1018) (by decide +kernel), List.mem_of_getElem? (i := 1019) (by decide +kernel)⟩
def lw_privs_3 : List (MethodName × Nat) := [(⟨"RingThreadsModel", "hasGain", "(I)Z"⟩, 16), (⟨"RingThreadsModel", "keepsGreys", "()V"⟩, 16), (⟨"RingThreadsModel", "turns", "(II)V"⟩, 16), (⟨"RingThreadsModel", "misfit", "()I"⟩, 16), (⟨"RingThreadsModel", "readsAll", "(Z)V"⟩, 16), (⟨"RingThreadsModel", "readsRow", "(Z)V"⟩, 16), (⟨"RingThreadsModel", "takes", "(II)I"⟩, 16), (⟨"RingThreadsModel", "sign", "()I"⟩, 16), (⟨"RingThreadsModel", "laysRow", "(IIIIZ)V"⟩, 16), (⟨"RingThreadsModel", "tellsNail", "(II)I"⟩, 16), (⟨"RingThreadsModel", "ends", "(I)I"⟩, 16), (⟨"RingThreadsModel", "tellsSpool", "(II)I"⟩, 16), (⟨"RingThreadsModel", "threadOf", "(I)I"⟩, 16), (⟨"RingThreadsModel", "tellsChord", "(III)I"⟩, 16), (⟨"RingThreadsModel", "tellsWound", "(II)I"⟩, 16), (⟨"RingThreadsModel", "tellsSquare", "(II)I"⟩, 16)]
theorem lw_r3 : ∀ q ∈ lw_privs_3, lw_okq q := List.forall_mem_cons.mpr ⟨lw_p32, List.forall_mem_cons.mpr ⟨lw_p33, List.forall_mem_cons.mpr ⟨lw_p34, List.forall_mem_cons.mpr ⟨lw_p35, List.forall_mem_cons.mpr ⟨lw_p36, List.forall_mem_cons.mpr ⟨lw_p37, List.forall_mem_cons.mpr ⟨lw_p38, List.forall_mem_cons.mpr ⟨lw_p39, List.forall_mem_cons.mpr ⟨lw_p40, List.forall_mem_cons.mpr ⟨lw_p41, List.forall_mem_cons.mpr ⟨lw_p42, List.forall_mem_cons.mpr ⟨lw_p43, List.forall_mem_cons.mpr ⟨lw_p44, List.forall_mem_cons.mpr ⟨lw_p45, List.forall_mem_cons.mpr ⟨lw_p46, List.forall_mem_cons.mpr ⟨lw_p47, fun _ h => absurd h List.not_mem_nil⟩⟩⟩⟩⟩⟩⟩⟩⟩⟩⟩⟩⟩⟩⟩⟩
theorem lw_p48 : lw_okq (⟨"RingThreadsModel", "over", "(I)I"⟩, 16) := ⟨⟨by decide +kernel, by decide +kernel⟩, List.mem_of_getElem? (i := 702) (by decide +kernel), List.mem_of_getElem? (i := 1022) (by decide +kernel), List.mem_of_getElem? (i := 1023) (by decide +kernel)⟩
theorem lw_p49 : lw_okq (⟨"RingThreadsModel", "tellsCount", "(I)I"⟩, 16) := ⟨⟨by decide +kernel, by decide +kernel⟩, List.mem_of_getElem? (i := 702) (by decide +kernel), List.mem_of_getElem? (i := 1030) (by decide +kernel), List.mem_of_getElem? (i := 1031) (by decide +kernel)⟩
theorem lw_p50 : lw_okq (⟨"RingThreadsModel", "squaresThat", "(I)I"⟩, 16) := ⟨⟨by decide +kernel, by decide +kernel⟩, List.mem_of_getElem? (i := 702) (by decide +kernel), List.mem_of_getElem? (i := 1034) (by decide +kernel), List.mem_of_getElem? (i := 1035) (by decide +kernel)⟩
theorem lw_p51 : lw_okq (⟨"RingThreadsModel", "tellsGain", "(I)I"⟩, 16) := ⟨⟨by decide +kernel, by decide +kernel⟩, List.mem_of_getElem? (i := 702) (by decide +kernel), List.mem_of_getElem? (i := 1050) (by decide +kernel), List.mem_of_getElem? (i := 1051) (by decide +kernel)⟩
theorem lw_p52 : lw_okq (⟨"RingThreadsModel", "twoBest", "()I"⟩, 16) := ⟨⟨by decide +kernel, by decide +kernel⟩, List.mem_of_getElem? (i := 702) (by decide +kernel), List.mem_of_getElem? (i := 1062) (by decide +kernel), List.mem_of_getElem? (i := 1063) (by decide +kernel)⟩
theorem lw_p53 : lw_okq (⟨"RingThreadsModel", "isSecondRefused", "(II)Z"⟩, 16) := ⟨⟨by decide +kernel, by decide +kernel⟩, List.mem_of_getElem? (i := 702) (by decide +kernel), List.mem_of_getElem? (i := 1067) (by decide +kernel), List.mem_of_getElem? (i := 1068) (by decide +kernel)⟩
theorem lw_p54 : lw_okq (⟨"RingThreadsModel", "palestOne", "()I"⟩, 16) := ⟨⟨by decide +kernel, by decide +kernel⟩, List.mem_of_getElem? (i := 702) (by decide +kernel), List.mem_of_getElem? (i := 1075) (by decide +kernel), List.mem_of_getElem? (i := 1076) (by decide +kernel)⟩
theorem lw_p55 : lw_okq (⟨"RingThreadsModel", "spoolBest", "()I"⟩, 16) := ⟨⟨by decide +kernel, by decide +kernel⟩, List.mem_of_getElem? (i := 702) (by decide +kernel), List.mem_of_getElem? (i := 1083) (by decide +kernel), List.mem_of_getElem? (i := 1084) (by decide +kernel)⟩
theorem lw_p56 : lw_okq (⟨"RingThreadsModel", "share", "()D"⟩, 16) := ⟨⟨by decide +kernel, by decide +kernel⟩, List.mem_of_getElem? (i := 702) (by decide +kernel), List.mem_of_getElem? (i := 1091) (by decide +kernel), List.mem_of_getElem? (i := 1092) (by decide +kernel)⟩
theorem lw_p57 : lw_okq (⟨"RingThreadsModel", "hashes", "(J)V"⟩, 16) := ⟨⟨by decide +kernel, by decide +kernel⟩, List.mem_of_getElem? (i := 702) (by decide +kernel), List.mem_of_getElem? (i := 1101) (by decide +kernel), List.mem_of_getElem? (i := 1102) (by decide +kernel)⟩
theorem lw_p58 : lw_okq (⟨"RingThreadsModel", "hashesNail", "(I)V"⟩, 16) := ⟨⟨by decide +kernel, by decide +kernel⟩, List.mem_of_getElem? (i := 702) (by decide +kernel), List.mem_of_getElem? (i := 1106) (by decide +kernel), List.mem_of_getElem? (i := 1107) (by decide +kernel)⟩
theorem lw_p59 : lw_okq (⟨"RingThreadsModel", "hashesLooks", "()V"⟩, 16) := ⟨⟨by decide +kernel, by decide +kernel⟩, List.mem_of_getElem? (i := 702) (by decide +kernel), List.mem_of_getElem? (i := 1110) (by decide +kernel), List.mem_of_getElem? (i := 1111) (by decide +kernel)⟩
def lw_privs_4 : List (MethodName × Nat) := [(⟨"RingThreadsModel", "over", "(I)I"⟩, 16), (⟨"RingThreadsModel", "tellsCount", "(I)I"⟩, 16), (⟨"RingThreadsModel", "squaresThat", "(I)I"⟩, 16), (⟨"RingThreadsModel", "tellsGain", "(I)I"⟩, 16), (⟨"RingThreadsModel", "twoBest", "()I"⟩, 16), (⟨"RingThreadsModel", "isSecondRefused", "(II)Z"⟩, 16), (⟨"RingThreadsModel", "palestOne", "()I"⟩, 16), (⟨"RingThreadsModel", "spoolBest", "()I"⟩, 16), (⟨"RingThreadsModel", "share", "()D"⟩, 16), (⟨"RingThreadsModel", "hashes", "(J)V"⟩, 16), (⟨"RingThreadsModel", "hashesNail", "(I)V"⟩, 16), (⟨"RingThreadsModel", "hashesLooks", "()V"⟩, 16)]
theorem lw_r4 : ∀ q ∈ lw_privs_4, lw_okq q := List.forall_mem_cons.mpr ⟨lw_p48, List.forall_mem_cons.mpr ⟨lw_p49, List.forall_mem_cons.mpr ⟨lw_p50, List.forall_mem_cons.mpr ⟨lw_p51, List.forall_mem_cons.mpr ⟨lw_p52, List.forall_mem_cons.mpr ⟨lw_p53, List.forall_mem_cons.mpr ⟨lw_p54, List.forall_mem_cons.mpr ⟨lw_p55, List.forall_mem_cons.mpr ⟨lw_p56, List.forall_mem_cons.mpr ⟨lw_p57, List.forall_mem_cons.mpr ⟨lw_p58, List.forall_mem_cons.mpr ⟨lw_p59, fun _ h => absurd h List.not_mem_nil⟩⟩⟩⟩⟩⟩⟩⟩⟩⟩⟩⟩
def lw_privs : List (MethodName × Nat) := lw_privs_1 ++ (lw_privs_2 ++ (lw_privs_3 ++ (lw_privs_4)))
def lw_tbl : List Cond := k2_sels lw_privs ++ tables_1
theorem lw_privs_ok : ∀ q ∈ lw_privs, lw_okq q := by
  show ∀ q ∈ lw_privs_1 ++ (lw_privs_2 ++ (lw_privs_3 ++ (lw_privs_4))), lw_okq q
  exact List.forall_mem_append.mpr ⟨lw_r1, List.forall_mem_append.mpr ⟨lw_r2, List.forall_mem_append.mpr ⟨lw_r3, lw_r4⟩⟩⟩
/-- the streams that the claim lets the run draw from -/
abbrev lw_cs : List Choice := [Jvm.Choice.named "NaN.bits"]
theorem lw_bits : nanBits ∈ lw_cs := by first | decide | exact List.mem_cons_self | simp [lw_cs, nanBits]
end
section
/-! ===== BEGIN words of one list among another's, by their places ===== -/
theorem goodIn_r {big : List Cond} (ws : List Cond) (ps : List Nat) (hp : ws = ps.filterMap (fun i => big[i]?)) (h : ws.all goodWord = true) : GoodIn big ws := by
  intro w hw
  have h1 := List.all_eq_true.mp h w hw
  rw [hp] at hw
  obtain ⟨i, -, hi⟩ := List.mem_filterMap.mp hw
  have hm : w ∈ big := by first | exact List.mem_of_getElem? hi | exact List.getElem?_mem hi
  exact ⟨hm, good_of_word h1⟩
theorem goodIn_app {big a b : List Cond} (ha : GoodIn big a) (hb : GoodIn big b) : GoodIn big (a ++ b) := fun w h => (List.mem_append.mp h).elim (ha w) (hb w)
theorem goodIn_ca {big a b : List Cond} {c : Cond} (ha : GoodIn big (c :: a)) (hb : GoodIn big b) : GoodIn big (c :: (a ++ b)) := fun w h => (List.mem_cons.mp h).elim (fun e => ha w (List.mem_cons.mpr (Or.inl e))) (fun h => (List.mem_append.mp h).elim (fun h => ha w (List.mem_cons.mpr (Or.inr h))) (hb w))
theorem goodIn_sub {big ws : List Cond} (hm : ∀ w ∈ ws, w ∈ big) (h : ws.all goodWord = true) : GoodIn big ws := fun w hw => ⟨hm w hw, good_of_word (List.all_eq_true.mp h w hw)⟩
/-! ===== END ===== -/

/-! ===== BEGIN exceptions that leave a method, and their catching by the caller (launches without stack traces) ===== -/
section VXA
/-! The laws vx_back, vx_callV, vx_callS, vx_callSW, vx_throw0, vx_throwS follow proofs of the library, with one case more: JvmDerived/Free/Laws.lean (Back.of_free), Shelf42/LK1.lean (callV, callS), Shelf/KitTraced.lean (throwNew0V, throwNewS). -/
/-- where a method has thrown q: the class by its name, the cell, what was written, the world -/
def vx_T (XC : String → State → State → Prop) (st : State) (q : Addr) (t : State) (mc ms : Nat) (free : Addr → Prop) : Prop :=
  ∃ (E : String) (ce : Cell) (L : List Loc), XC E st t ∧ t.heap[q]? = some ce ∧ ce.vm = .none ∧ st.vm.findClass E = some ce.cls ∧ st.WarmedH t.vm ∧ st.sameButNew ({ t with vm := st.vm } : State) L mc ms ∧ ∀ z ∈ L, free z.base
def vx_Q (Qc : Array Value → State → Outcome → State → Prop) (XC : String → State → State → Prop) (mc ms : Nat) (free : Addr → Prop) : Array Value → State → Outcome → State → Prop := fun a st o t =>
  (Qc a st o t ∧ ∃ L, FrameEnd st o t L mc ms ∧ ∀ q ∈ L, free q.base) ∨ ∃ q, o = .threw q ∧ vx_T XC st q t mc ms free
/-- a callee that returns or throws -/
def vx_Met (l : Launch) (y : MethodName) (ws : List Cond) (rm : Room) (Pc : Array Value → State → Prop) (Qc : Array Value → State → Outcome → State → Prop) (XC : String → State → State → Prop) (mc ms : Nat) (free : Addr → Prop) : Prop :=
  MetFree l y (headSpec ws rm) Pc (fun _ _ _ _ _ => True) (vx_Q Qc XC mc ms free)
def vx_Post (XC : String → State → State → Prop) (mc ms : Nat) (free : Addr → Prop) : Pt → Array Value → Addr → Pt → Prop := fun A a q B =>
  ∃ (g : JFrame) (mk : MethodId) (t : State) (L : List Loc) (E : String) (ce : Cell), B.U.heap = t.heap ∧ B.U.vm = t.vm ∧ XC E (A.U.calling g mk a) t ∧ t.heap[q]? = some ce ∧ ce.vm = .none ∧ A.U.vm.findClass E = some ce.cls ∧ B.locs = A.locs ++ L ∧ (∀ z ∈ L, free z.base) ∧ B.cells = A.cells + mc ∧ B.slots = A.slots + ms
def vx_Back (l : Launch) (R : Room) (p : Program) (e : Env) (below : List Frame) (s : State) (sargs : Array Value) (y : MethodName) (len W9 : Nat)
    (Pre : Pt → Array Value → Prop) (Post : Pt → Array Value → Option Value → Pt → Prop) (PostX : Pt → Array Value → Addr → Pt → Prop) : Prop :=
  ∀ (m : MethodId) (meth : Method) (c : Code) (A : Pt) (g : JFrame) (ig : Instr) (mk : MethodId) (a : Array Value),
    Stand p l e R s m sargs below meth c A.U A.locs A.cells A.slots → g.method = m → g.locals.size = c.maxLocals → decode c.code g.pc = .ok (ig, len) →
    2 * g.monitorRoom + (g.stack.map fun v => v.category).sum ≤ W9 → A.U.methodNamed? y = some mk → Pre A a →
    (∃ (v : Option Value) (B : Pt), Stand p l e R s m sargs below meth c B.U B.locs B.cells B.slots ∧ Post A a v B ∧
      Steps p.tables e below (doInvoke e (A.U.setTop g) [] mk a).1 (B.U.setTop { g with pc := g.pc + len, stack := v.toList ++ g.stack })) ∨
    (∃ (q : Addr) (B : Pt), Stand p l e R s m sargs below meth c B.U B.locs B.cells B.slots ∧ PostX A a q B ∧
      Steps p.tables e below (doInvoke e (A.U.setTop g) [] mk a).1 ((B.U.setTop g).pushFrame (.throwing q)))
section Payer
variable {l : Launch} {R : Room} {p : Program} {e : Env} {below : List Frame} {s : State} {sargs : Array Value} {y : MethodName} {len W9 : Nat}
theorem vx_back {ws : List Cond} {rm : Room} {Pc : Array Value → State → Prop} {Qc : Array Value → State → Outcome → State → Prop} {XC : String → State → State → Prop} {mc ms : Nat} {free : Addr → Prop} {bytes : ByteArray} {maxL : Nat} {ret : Option FieldType}
    (hM : vx_Met l y ws rm Pc Qc XC mc ms free) (hblind : FrameBlind Pc) (hrc : rm.cells = mc) (hrs : rm.slots = ms)
    (hframes : rm.frames + 1 ≤ R.frames) (hlocals : W9 + (maxL + 11) + rm.locals ≤ R.locals)
    (hws : ∀ w ∈ ws, ∀ a' U, s.WarmedH U.vm → w.before a' U = true) (hcode : Cond.code y bytes maxL ret ∈ ws) (hinit : ∀ a' U, s.WarmedH U.vm → (Cond.initialized y.cls).before a' U = true) :
    vx_Back l R p e below s sargs y len W9 (PreOf R mc ms Pc) (PostOf Qc mc ms free) (vx_Post XC mc ms free) := by
  intro m meth c A g ig mk a X hg hsize hdg hW hn hp
  have h1 : (headSpec ws rm).pre.before a A.U = true := atoms_intro fun w hw => hws w hw _ _ X.warmed
  have h2 : (Cond.code y bytes maxL ret).before a A.U = true := hws _ hcode _ _ X.warmed
  have h3 : (Cond.initialized y.cls).before a A.U = true := hinit _ _ X.warmed
  have h4 : A.cells + (headSpec ws rm).room.cells ≤ R.cells := by rw [show (headSpec ws rm).room.cells = mc from hrc]; exact hp.1
  have h5 : A.slots + (headSpec ws rm).room.slots ≤ R.slots := by rw [show (headSpec ws rm).room.slots = ms from hrs]; exact hp.2.1
  have hPc : Pc a (A.U.calling g mk a) := hblind _ _ _ _ hp.2.2
  obtain ⟨U, Ls, c0, s0⟩ := A
  dsimp only [Pt.U, Pt.locs, Pt.cells, Pt.slots] at h1 h2 h3 h4 h5 X hn hPc ⊢
  obtain ⟨methY, cY, hmY, hcY, -, hlY, -, -, -, -⟩ := Cond.code_spec hn h2
  obtain ⟨kY, hkY, -⟩ := className_of_methodNamed hn
  have hinitY : kY.init = .initialized := Cond.initialized_spec (findClass_of_methodNamed hn) hkY h3
  have h : At U g.method c below := by rw [hg]; exact X.here
  have hlocals9 : W9 + (maxL + 11) + (headSpec ws rm).room.locals ≤ R.locals := hlocals
  have happ : (headSpec ws rm).appliesLoose y e.platform (U.calling g mk a) = true :=
    Spec.appliesLoose_calling (g := g) h hdg hn hkY hinitY
      (X.room_calling (g := g) (R' := (headSpec ws rm).room) hsize hmY hcY hframes (by rw [hlY]; omega) h4 h5) h1
  obtain ⟨mid, hmid⟩ := h.above
  have hfr : (U.setTop g).frames = (.java g :: mid) ++ below := by rw [State.frames_setTop' g h.top, hmid]; rfl
  obtain ⟨o, s₂, hsteps, -, hend, hq⟩ := Steps.callFree hM p X.admits X.cas X.clock (acts := []) hfr happ hPc trivial
  have hq' : vx_Q Qc XC mc ms free a (U.calling g mk a) o s₂ := hq
  rw [State.frames_setTop' g h.top] at hend
  obtain ⟨g₀, hg0⟩ := Option.isSome_iff_exists.mp h.top
  obtain ⟨r, hr⟩ := State.topJava?_eq_some.mp hg0
  have hr' : (({ U with heap := s₂.heap, slotsUsed := s₂.slotsUsed } : State).setVm s₂.vm).frames = .java g₀ :: r := hr
  rcases hq' with ⟨hqc, L, hfe, hL⟩ | ⟨q, rfl, E, ce, L, hx, hce, hcv, hcl, hW₂, hsm, hL⟩
  · obtain ⟨⟨v, rfl⟩, hW₂, e2, q2, q3, q4, q5, q6⟩ := id hfe
    have e3 : s₂ = ({ (U.calling g mk a).setFrames s₂.frames with heap := s₂.heap, slotsUsed := s₂.slotsUsed } : State).setVm s₂.vm := by
      have : s₂ = ({ s₂ with vm := (U.calling g mk a).vm } : State).setVm s₂.vm := rfl
      rw [e2] at this
      exact this
    obtain ⟨c₂, i₂, len₂, hc₂, hd₂, hf₂⟩ := hend
    have hW' : U.WarmedH s₂.vm := hW₂
    have hcc : c₂ = c := by
      have h1 : s₂.code? g.method = U.code? g.method := by
        rw [State.code?_eq, State.code?_eq, hW'.alike.method?]
      exact Option.some.inj (hc₂.symm.trans (h1.trans h.code))
    subst hcc
    have hlen : len₂ = len := by rw [hdg] at hd₂; cases hd₂; rfl
    subst hlen
    have hs₂ : s₂ = (({ U with heap := s₂.heap, slotsUsed := s₂.slotsUsed } : State).setVm s₂.vm).setTop { g with pc := g.pc + len₂, stack := v.toList ++ g.stack } := by
      refine e3.trans ?_
      rw [hf₂, State.calling_eq h.top, State.setFrames_setFrames, State.setTop_of_frames _ hr', hr]
      rfl
    have hsame : U.sameButNew ({ U with heap := s₂.heap, slotsUsed := s₂.slotsUsed } : State) L mc ms := by
      refine ⟨?_, q2, q3, q4, q5, q6⟩
      obtain ⟨t, ht, -⟩ := State.frames_cons hr
      show ({ U with heap := s₂.heap, slotsUsed := s₂.slotsUsed } : State) = { U.setFrames U.frames with heap := s₂.heap, slotsUsed := s₂.slotsUsed }
      rw [State.setFrames_self ht]
    subst hg
    refine Or.inl ⟨v, ⟨(({ U with heap := s₂.heap, slotsUsed := s₂.slotsUsed } : State).setVm s₂.vm), Ls ++ L, c0 + mc, s0 + ms⟩,
      ⟨X.admits, X.cas, X.clock, X.frames, X.room, X.hears, X.method, X.code, (X.here.setHeapUsed s₂.heap s₂.slotsUsed).setVm hW'.alike, X.tail, State.WarmedH.trans X.warmed hW', X.limits, X.bytes, X.same.trans (hsame.setVm s.vm)⟩,
      ⟨g, mk, s₂, L, rfl, rfl, hqc, rfl, hL, rfl, rfl⟩, ?_⟩
    show Steps p.tables e below _ ((({ U with heap := s₂.heap, slotsUsed := s₂.slotsUsed } : State).setVm s₂.vm).setTop { g with pc := g.pc + len₂, stack := v.toList ++ g.stack })
    rw [← hs₂]
    exact hsteps
  · obtain ⟨e2, q2, q3, q4, q5, q6⟩ := id hsm
    have e3 : s₂ = ({ (U.calling g mk a).setFrames s₂.frames with heap := s₂.heap, slotsUsed := s₂.slotsUsed } : State).setVm s₂.vm := by
      have : s₂ = ({ s₂ with vm := (U.calling g mk a).vm } : State).setVm s₂.vm := rfl
      rw [e2] at this
      exact this
    have hf₂ : s₂.frames = .throwing q :: .java g :: U.frames.tail := hend
    have hW' : U.WarmedH s₂.vm := hW₂
    have hs₂ : s₂ = ((({ U with heap := s₂.heap, slotsUsed := s₂.slotsUsed } : State).setVm s₂.vm).setTop g).pushFrame (.throwing q) := by
      refine e3.trans ?_
      rw [hf₂, State.calling_eq h.top, State.setFrames_setFrames, State.pushFrame, State.frames_setTop _ hr', State.setTop_of_frames _ hr', State.setFrames_setFrames, hr]
      rfl
    have hsame : U.sameButNew ({ U with heap := s₂.heap, slotsUsed := s₂.slotsUsed } : State) L mc ms := by
      refine ⟨?_, q2, q3, q4, q5, q6⟩
      obtain ⟨t, ht, -⟩ := State.frames_cons hr
      show ({ U with heap := s₂.heap, slotsUsed := s₂.slotsUsed } : State) = { U.setFrames U.frames with heap := s₂.heap, slotsUsed := s₂.slotsUsed }
      rw [State.setFrames_self ht]
    subst hg
    refine Or.inr ⟨q, ⟨(({ U with heap := s₂.heap, slotsUsed := s₂.slotsUsed } : State).setVm s₂.vm), Ls ++ L, c0 + mc, s0 + ms⟩,
      ⟨X.admits, X.cas, X.clock, X.frames, X.room, X.hears, X.method, X.code, (X.here.setHeapUsed s₂.heap s₂.slotsUsed).setVm hW'.alike, X.tail, State.WarmedH.trans X.warmed hW', X.limits, X.bytes, X.same.trans (hsame.setVm s.vm)⟩,
      ⟨g, mk, s₂, L, E, ce, rfl, rfl, hx, hce, hcv, hcl, rfl, hL, rfl, rfl⟩, ?_⟩
    show Steps p.tables e below _ (((({ U with heap := s₂.heap, slotsUsed := s₂.slotsUsed } : State).setVm s₂.vm).setTop g).pushFrame (.throwing q))
    rw [← hs₂]
    exact hsteps
end Payer
section Calls
variable {p : Program} {l : Launch} {e : Env} {R : Room} {s : State} {m : MethodId} {args : Array Value} {below : List Frame} {meth : Method} {c : Code} {T : State} {locs : List Loc} {cells slots : Nat}
theorem vx_callV (X : Stand p l e R s m args below meth c T locs cells slots) (hexec : p.tables.exec = Jvm.exec) {own C : String} {index : Nat} {y : MethodName} {bytes : ByteArray} {maxL : Nat} {ret : Option FieldType}
    (hown : s.vm.findClass own = some m.cls) (hlink : (Cond.methodLink own index y).before args s = true) (hinst : (Cond.instanceMethod y).before args s = true) (hsel : (Cond.selects C y y).before args s = true)
    (hcode : (Cond.code y bytes maxL ret).before args s = true) (hy : y.cls ≠ "java/lang/invoke/MethodHandle" ∧ y.cls ≠ "java/lang/invoke/VarHandle")
    {W9 : Nat} {Pre : Pt → Array Value → Prop} {Post : Pt → Array Value → Option Value → Pt → Prop} {PostX : Pt → Array Value → Addr → Pt → Prop} (hK : vx_Back l R p e below s args y 3 W9 Pre Post PostX)
    {b : Addr} {cellB : Cell} (hcell : T.heap[b]? = some cellB) (hobj : cellB.vm.isStatics = false) (hcls : s.vm.findClass C = some cellB.cls)
    {g : JFrame} (hg : g.method = m) (hsize : g.locals.size = c.maxLocals) {argsL rest : List Value} (hlen : ∀ sig, parseMethodDescriptor y.desc = some sig → argsL.length = sig.parameters.length)
    (hstack : g.stack = argsL.reverse ++ .ref b :: rest) (hW : 2 * g.monitorRoom + (rest.map fun v => v.category).sum ≤ W9) (hdg : decode c.code g.pc = .ok (.invokevirtual index, 3))
    (hpre : ∀ vm₁, s.WarmedH vm₁ → Pre ⟨T.setVm vm₁, locs, cells, slots⟩ (Value.ref b :: argsL).toArray) :
    (∃ (v : Option Value) (vm₁ : Vm) (B : Pt), s.WarmedH vm₁ ∧ Stand p l e R s m args below meth c B.U B.locs B.cells B.slots ∧ Post ⟨T.setVm vm₁, locs, cells, slots⟩ (Value.ref b :: argsL).toArray v B ∧
      ∀ target, Steps p.tables e below (B.U.setTop { g with pc := g.pc + 3, stack := v.toList ++ rest }) target → Steps p.tables e below (T.setTop g) target) ∨
    (∃ (q : Addr) (vm₁ : Vm) (B : Pt), s.WarmedH vm₁ ∧ Stand p l e R s m args below meth c B.U B.locs B.cells B.slots ∧ PostX ⟨T.setVm vm₁, locs, cells, slots⟩ (Value.ref b :: argsL).toArray q B ∧
      Steps p.tables e below (T.setTop g) ((B.U.setTop { g with stack := rest }).pushFrame (.throwing q))) := by
  obtain ⟨mk, methM, hnamed, hmethM, hstM, habM⟩ := Cond.instanceMethod_spec hinst
  obtain ⟨methM', cM, hmethM', -, -, -, -, -, -, hsigM⟩ := Cond.code_spec hnamed hcode
  cases hmethM.symm.trans hmethM'
  obtain ⟨c2, r2, m2, q1, q2, q3, q4, kP, hkP, hkPi⟩ := Cond.selects_spec hsel
  cases hcls.symm.trans q1
  cases (State.methodFound?_of_named hnamed hy).symm.trans q2
  cases hnamed.symm.trans q3
  have hselP : selectMethod e.platform s.vm cellB.cls mk = .method mk := by rw [Launch.admits_selectMethod X.admits]; exact q4
  obtain ⟨vm₁, X₁, hstep₁⟩ := X.invokevirtual hexec hown hlink hnamed hmethM hstM hkP hkPi hy (a := b) (cell := cellB) hcell
    (fun z h => by rw [h] at hobj; cases hobj) hselP hmethM habM hkP hkPi (g := g) hg (argsL := argsL) (rest := rest) (hlen _ hsigM) hstack hdg
  rcases hK m meth c ⟨T.setVm vm₁, locs, cells, slots⟩ { g with stack := rest } (.invokevirtual index) mk (Value.ref b :: argsL).toArray X₁ hg hsize hdg hW (X₁.named hnamed) (hpre vm₁ X₁.warmed) with ⟨v, B, X', hpost, hsteps⟩ | ⟨q, B, X', hpost, hsteps⟩
  · exact Or.inl ⟨v, vm₁, B, X₁.warmed, X', hpost, fun target h => hstep₁ _ fun acts => by rw [doInvoke_state]; exact hsteps.trans h⟩
  · exact Or.inr ⟨q, vm₁, B, X₁.warmed, X', hpost, hstep₁ _ fun acts => by rw [doInvoke_state]; exact hsteps⟩
theorem vx_callS (X : Stand p l e R s m args below meth c T locs cells slots) (hexec : p.tables.exec = Jvm.exec) {own : String} {index : Nat} {y : MethodName} {bytes : ByteArray} {maxL : Nat} {ret : Option FieldType}
    (hown : s.vm.findClass own = some m.cls) (hlink : (Cond.methodLink own index y).before args s = true) (hstat : (Cond.static y).before args s = true) (hinit : (Cond.initialized y.cls).before args s = true)
    (hcode : (Cond.code y bytes maxL ret).before args s = true) (hy : y.cls ≠ "java/lang/invoke/MethodHandle" ∧ y.cls ≠ "java/lang/invoke/VarHandle")
    {W9 : Nat} {Pre : Pt → Array Value → Prop} {Post : Pt → Array Value → Option Value → Pt → Prop} {PostX : Pt → Array Value → Addr → Pt → Prop} (hK : vx_Back l R p e below s args y 3 W9 Pre Post PostX)
    {g : JFrame} (hg : g.method = m) (hsize : g.locals.size = c.maxLocals) {argsL rest : List Value} (hlen : ∀ sig, parseMethodDescriptor y.desc = some sig → argsL.length = sig.parameters.length)
    (hstack : g.stack = argsL.reverse ++ rest) (hW : 2 * g.monitorRoom + (rest.map fun v => v.category).sum ≤ W9) (hdg : decode c.code g.pc = .ok (.invokestatic index, 3))
    (hpre : ∀ vm₁, s.WarmedH vm₁ → Pre ⟨T.setVm vm₁, locs, cells, slots⟩ argsL.toArray) :
    (∃ (v : Option Value) (vm₁ : Vm) (B : Pt), s.WarmedH vm₁ ∧ Stand p l e R s m args below meth c B.U B.locs B.cells B.slots ∧ Post ⟨T.setVm vm₁, locs, cells, slots⟩ argsL.toArray v B ∧
      ∀ target, Steps p.tables e below (B.U.setTop { g with pc := g.pc + 3, stack := v.toList ++ rest }) target → Steps p.tables e below (T.setTop g) target) ∨
    (∃ (q : Addr) (vm₁ : Vm) (B : Pt), s.WarmedH vm₁ ∧ Stand p l e R s m args below meth c B.U B.locs B.cells B.slots ∧ PostX ⟨T.setVm vm₁, locs, cells, slots⟩ argsL.toArray q B ∧
      Steps p.tables e below (T.setTop g) ((B.U.setTop { g with stack := rest }).pushFrame (.throwing q))) := by
  obtain ⟨mk, hnamed⟩ := Cond.code_named hcode
  obtain ⟨methM, cM, hmethM, -, -, -, -, -, -, hsigM⟩ := Cond.code_spec hnamed hcode
  have hstatic : methM.isStatic = true := Cond.static_spec hnamed hmethM hstat
  obtain ⟨kP, hkP, -⟩ := className_of_methodNamed hnamed
  have hinitP : kP.init = .initialized := Cond.initialized_spec (findClass_of_methodNamed hnamed) hkP hinit
  obtain ⟨vm₁, X₁, hstep₁⟩ := X.invokestatic hexec hown hlink hnamed hmethM hstatic hkP hinitP hy (g := g) hg (argsL := argsL) (rest := rest) (hlen _ hsigM) hstack hdg
  rcases hK m meth c ⟨T.setVm vm₁, locs, cells, slots⟩ { g with stack := rest } (.invokestatic index) mk argsL.toArray X₁ hg hsize hdg hW (X₁.named hnamed) (hpre vm₁ X₁.warmed) with ⟨v, B, X', hpost, hsteps⟩ | ⟨q, B, X', hpost, hsteps⟩
  · exact Or.inl ⟨v, vm₁, B, X₁.warmed, X', hpost, fun target h => hstep₁ _ fun acts => by rw [doInvoke_state]; exact hsteps.trans h⟩
  · exact Or.inr ⟨q, vm₁, B, X₁.warmed, X', hpost, hstep₁ _ fun acts => by rw [doInvoke_state]; exact hsteps⟩
end Calls
theorem vx_cls {s : State} {T : State} {vm₁ : Vm} {E : String} {k : ClassId} (hW : s.WarmedH vm₁) (h : (T.setVm vm₁).vm.findClass E = some k) : s.vm.findClass E = some k := by
  have h1 : vm₁.findClass E = some k := h
  rw [hW.alike.findClass] at h1
  exact h1
/-- the method's frame g, with q thrown over it -/
def vx_W (p : Program) (l : Launch) (e : Env) (R : Room) (s : State) (m : MethodId) (args : Array Value) (below : List Frame) (meth : Method) (c : Code) (H : Heap) (locs : List Loc) (cells slots : Nat) (Q : State → Prop) (g : JFrame) (q : Addr) : Prop :=
  ∀ T : State, T.heap = H → Stand p l e R s m args below meth c T locs cells slots → ∃ t, Steps p.tables e below ((T.setTop g).pushFrame (.throwing q)) t ∧ Q t
def vx_Run (p : Program) (l : Launch) (e : Env) (R : Room) (s : State) (m : MethodId) (args : Array Value) (below : List Frame) (meth : Method) (c : Code) (H : Heap) (locs : List Loc) (cells slots mc ms : Nat) (g : JFrame) (rest : List Value) (Qa : State → Outcome → State → Prop) (XC : String → State → State → Prop) (free : Addr → Prop) : Prop :=
  ∀ T : State, T.heap = H → Stand p l e R s m args below meth c T locs cells slots →
    (∃ (v : Option Value) (st₀ t T' : State) (L : List Loc), st₀.heap = H ∧ Stand p l e R s m args below meth c T' (locs ++ L) (cells + mc) (slots + ms) ∧ (∀ q ∈ L, free q.base) ∧ T'.heap = t.heap ∧ T'.vm = t.vm ∧ Qa st₀ (.returned v) t ∧
      Goes p e below T g T' { g with pc := g.pc + 3, stack := v.toList ++ rest }) ∨
    (∃ (q : Addr) (st₀ t T' : State) (L : List Loc) (E : String) (ce : Cell), st₀.heap = H ∧ Stand p l e R s m args below meth c T' (locs ++ L) (cells + mc) (slots + ms) ∧ (∀ z ∈ L, free z.base) ∧ T'.heap = t.heap ∧ T'.vm = t.vm ∧ XC E st₀ t ∧ t.heap[q]? = some ce ∧ ce.vm = .none ∧ s.vm.findClass E = some ce.cls ∧
      Steps p.tables e below (T.setTop g) ((T'.setTop { g with stack := rest }).pushFrame (.throwing q)))
def vx_X {S : Type} (px : S → Prop) (B : String → S → State → Prop) (A : Nat → Prop) : String → State → State → Prop := fun E st t => ∃ u : S, px u ∧ B E u t ∧ va_F A st t
section Runs
variable {p : Program} {l : Launch} {e : Env} {R : Room} {s : State} {m : MethodId} {args : Array Value} {below : List Frame} {meth : Method} {c : Code} {H : Heap} {locs : List Loc} {cells slots : Nat}
variable {y : MethodName} {bytes cc : ByteArray} {maxL nL mc ms n index : Nat} {ret : Option FieldType} {ws : List Cond} {rm : Room} {Pc : Array Value → State → Prop} {Qc : Array Value → State → Outcome → State → Prop} {XC : String → State → State → Prop} {free : Addr → Prop} {Ts : List Cond} {own C : String} {b : Addr} {As rest : List Value} {g : JFrame}
theorem vx_callBack (cb : CallB R s args own index y bytes maxL ret ws rm mc ms n) (hM : vx_Met l y ws rm Pc Qc XC mc ms free) (hbl : FrameBlind Pc) : vx_Back l R p e below s args y 3 8 (PreOf R mc ms Pc) (PostOf Qc mc ms free) (vx_Post XC mc ms free) := by
  obtain ⟨hrc, hrs, hfr, hlo, hws, hcw, -, hini, -⟩ := cb
  exact vx_back (bytes := bytes) (maxL := maxL) (ret := ret) hM hbl hrc hrs hfr hlo hws hcw (fun a' U hW => word_at hW (Or.inl (by first | rfl | simp [Cond.onTables, Cond.keeps, Cond.steady])) hini)
theorem vx_runV (S : CallFix p m c cc nL s args Ts own) (hM : vx_Met l y ws rm Pc Qc XC mc ms free) (cw : CallW R s args own C index y bytes maxL ret ws rm mc ms n) (hp : PreV s H C b Pc As)
    (hg : g.method = m) (hn : As.length = n) (hsize : g.locals.size = nL) (hstack : g.stack = As.reverse ++ .ref b :: rest) (hW : 2 * g.monitorRoom + (rest.map fun v => v.category).sum ≤ 8) (hdg : decode cc g.pc = .ok (.invokevirtual index, 3)) (hf : cells + mc ≤ R.cells ∧ slots + ms ≤ R.slots) :
    vx_Run p l e R s m args below meth c H locs cells slots mc ms g rest (Qc (Value.ref b :: As).toArray) XC free := by
  have hK : vx_Back l R p e below s args y 3 8 (PreOf R mc ms Pc) (PostOf Qc mc ms free) (vx_Post XC mc ms free) := vx_callBack cw.1 hM hp.1
  obtain ⟨⟨-, -, -, -, -, -, hcode, -, hy, hlen, hl⟩, hin, hse⟩ := cw
  obtain ⟨hx, hb, hml, ho, -⟩ := S
  obtain ⟨-, ⟨cellB, hcB, hoB, hclB⟩, hPc⟩ := hp
  intro T hT X
  rcases vx_callV X hx (C := C) (bytes := bytes) (maxL := maxL) (ret := ret) ho hl hin hse hcode hy hK (by rw [hT]; exact hcB) hoB hclB hg (hsize.trans hml.symm) (argsL := As) (rest := rest) (fun sig h => hn.trans (hlen sig h)) hstack hW (by rw [hb]; exact hdg)
    (fun vm₁ hW₁ => ⟨hf.1, hf.2, hPc (T.setVm vm₁) hT hW₁⟩) with ⟨v, vm₁, ⟨U', l2, c2, s2⟩, hW₁, X', ⟨g', mk, t, L, e1, e2, hq, h1, hL, h2, h3⟩, st⟩ | ⟨q, vm₁, ⟨U', l2, c2, s2⟩, hW₁, X', ⟨g', mk, t, L, E, ce, e1, e2, hq, hce, hcv, hcl, h1, hL, h2, h3⟩, st⟩
  · dsimp only [Pt.U, Pt.locs, Pt.cells, Pt.slots] at X' e1 e2 h1 h2 h3 st
    subst h1; subst h2; subst h3
    exact Or.inl ⟨v, (T.setVm vm₁).calling g' mk (Value.ref b :: As).toArray, t, U', L, hT, X', hL, e1, e2, hq, st⟩
  · dsimp only [Pt.U, Pt.locs, Pt.cells, Pt.slots] at X' e1 e2 h1 h2 h3 st hcl
    subst h1; subst h2; subst h3
    exact Or.inr ⟨q, (T.setVm vm₁).calling g' mk (Value.ref b :: As).toArray, t, U', L, E, ce, hT, X', hL, e1, e2, hq, hce, hcv, vx_cls hW₁ hcl, st⟩
theorem vx_runS (S : CallFix p m c cc nL s args Ts own) (hM : vx_Met l y ws rm Pc Qc XC mc ms free) (cw : CallB R s args own index y bytes maxL ret ws rm mc ms n ∧ (Cond.static y).before args s = true) (hp : PreS s H Pc As)
    (hg : g.method = m) (hn : As.length = n) (hsize : g.locals.size = nL) (hstack : g.stack = As.reverse ++ rest) (hW : 2 * g.monitorRoom + (rest.map fun v => v.category).sum ≤ 8) (hdg : decode cc g.pc = .ok (.invokestatic index, 3)) (hf : cells + mc ≤ R.cells ∧ slots + ms ≤ R.slots) :
    vx_Run p l e R s m args below meth c H locs cells slots mc ms g rest (Qc As.toArray) XC free := by
  have hK : vx_Back l R p e below s args y 3 8 (PreOf R mc ms Pc) (PostOf Qc mc ms free) (vx_Post XC mc ms free) := vx_callBack cw.1 hM hp.1
  obtain ⟨⟨-, -, -, -, -, -, hcode, hini, hy, hlen, hl⟩, hstt⟩ := cw
  obtain ⟨hx, hb, hml, ho, -⟩ := S
  intro T hT X
  rcases vx_callS X hx (bytes := bytes) (maxL := maxL) (ret := ret) ho hl hstt hini hcode hy hK hg (hsize.trans hml.symm) (argsL := As) (rest := rest) (fun sig h => hn.trans (hlen sig h)) hstack hW (by rw [hb]; exact hdg)
    (fun vm₁ hW₁ => ⟨hf.1, hf.2, hp.2 (T.setVm vm₁) hT hW₁⟩) with ⟨v, vm₁, ⟨U', l2, c2, s2⟩, hW₁, X', ⟨g', mk, t, L, e1, e2, hq, h1, hL, h2, h3⟩, st⟩ | ⟨q, vm₁, ⟨U', l2, c2, s2⟩, hW₁, X', ⟨g', mk, t, L, E, ce, e1, e2, hq, hce, hcv, hcl, h1, hL, h2, h3⟩, st⟩
  · dsimp only [Pt.U, Pt.locs, Pt.cells, Pt.slots] at X' e1 e2 h1 h2 h3 st
    subst h1; subst h2; subst h3
    exact Or.inl ⟨v, (T.setVm vm₁).calling g' mk As.toArray, t, U', L, hT, X', hL, e1, e2, hq, st⟩
  · dsimp only [Pt.U, Pt.locs, Pt.cells, Pt.slots] at X' e1 e2 h1 h2 h3 st hcl
    subst h1; subst h2; subst h3
    exact Or.inr ⟨q, (T.setVm vm₁).calling g' mk As.toArray, t, U', L, E, ce, hT, X', hL, e1, e2, hq, hce, hcv, vx_cls hW₁ hcl, st⟩
end Runs
section Rows
variable {p : Program} {l : Launch} {e : Env} {R : Room} {s : State} {m : MethodId} {args : Array Value} {below : List Frame} {meth : Method} {c : Code} {H : Heap} {locs : List Loc} {cells slots : Nat} {Q : State → Prop}
variable {mc ms : Nat} {free : Addr → Prop} {A0 A1 : Nat → Prop} {H0 : Heap} {a : Array Value} {pc : Nat} {ls : Array Slot} {st0 rest : List Value}
theorem vx_keep {st₀ t T' : State} {L : List Loc} (h0 : st₀.heap = H) (e1 : T'.heap = t.heap) (hS : va_S A0 H0 H locs) (hA : ∀ q, q < H.size → A1 q → A0 q) (hf : ∀ q, free q → A0 q) (hL : ∀ q ∈ L, free q.base) (hF : va_F A1 st₀ t) :
    H.size ≤ T'.heap.size ∧ (∀ q : Nat, q < H.size → ¬ A1 q → T'.heap[q]? = H[q]?) ∧ va_S A0 H0 T'.heap (locs ++ L) := by
  obtain ⟨hz, hk⟩ := hF
  rw [h0] at hz hk
  exact ⟨by rw [e1]; exact hz, fun q h1 h2 => by rw [e1]; exact hk q h1 h2,
    ⟨Nat.le_trans hS.1 (by rw [e1]; exact hz), fun q h1 h2 => by rw [e1, hk q (Nat.lt_of_lt_of_le h1 hS.1) (fun z => h2 (hA q (Nat.lt_of_lt_of_le h1 hS.1) z))]; exact hS.2.1 q h1 h2, fun q hq => by
      rcases List.mem_append.mp hq with h | h
      · exact hS.2.2 q h
      · exact hf _ (hL q h)⟩⟩
theorem vx_calli {S SX : Type} {post : Int32 → S → Prop} {px : SX → Prop} {B : S → State → Prop} {BX : String → SX → State → Prop} {AX : Nat → Prop} (hr : vx_Run p l e R s m args below meth c H locs cells slots mc ms (F0 m pc ls st0) rest (va_Qi post B A1 a) (vx_X px BX AX) free) (hS : va_S A0 H0 H locs) (hA : ∀ q, q < H.size → A1 q → A0 q) (hf : ∀ q, free q → A0 q) (hAX : ∀ q, q < H.size → AX q → A0 q)
    (kx : ∀ (E : String) (ce : Cell) (q9 : Addr) (u : SX) (t : State) (H1 : Heap) (locs1 : List Loc), t.heap = H1 → s.vm.Alike t.vm → px u → BX E u t → H.size ≤ H1.size → (∀ q : Nat, q < H.size → ¬ AX q → H1[q]? = H[q]?) → va_S A0 H0 H1 locs1 → H1[q9]? = some ce → ce.vm = .none → s.vm.findClass E = some ce.cls → vx_W p l e R s m args below meth c H1 locs1 (cells + mc) (slots + ms) Q (F0 m pc ls rest) q9)
    (kk : ∀ (r : Int32) (u : S) (t : State) (H1 : Heap) (locs1 : List Loc), t.heap = H1 → s.vm.Alike t.vm → post r u → B u t → H.size ≤ H1.size → (∀ q : Nat, q < H.size → ¬ A1 q → H1[q]? = H[q]?) → va_S A0 H0 H1 locs1 → W p l e R s m args below meth c H1 locs1 (cells + mc) (slots + ms) Q (F0 m (pc + 3) ls (.int r :: rest))) : W p l e R s m args below meth c H locs cells slots Q (F0 m pc ls st0) := by
  intro T hT X
  rcases hr T hT X with ⟨v, st₀, t, T', L, h0, X', hL, e1, e2, ⟨⟨r, u, hv, hp, hb⟩, hF⟩, st⟩ | ⟨q, st₀, t, T', L, E, ce, h0, X', hL, e1, e2, ⟨u, hp, hb, hF⟩, hce, hcv, hcl, st⟩
  · cases hv
    obtain ⟨k1, k2, k3⟩ := vx_keep h0 e1 hS hA hf hL hF
    obtain ⟨t2, a1, b1⟩ := kk r u t T'.heap (locs ++ L) e1.symm (by rw [← e2]; exact X'.warmed.alike) hp hb k1 k2 k3 T' rfl X'
    exact ⟨t2, st t2 a1, b1⟩
  · obtain ⟨k1, k2, k3⟩ := vx_keep h0 e1 hS hAX hf hL hF
    obtain ⟨t2, a1, b1⟩ := kx E ce q u t T'.heap (locs ++ L) e1.symm (by rw [← e2]; exact X'.warmed.alike) hp hb k1 k2 k3 (by rw [e1]; exact hce) hcv hcl T' rfl X'
    exact ⟨t2, st.trans a1, b1⟩
theorem vx_calll {S SX : Type} {post : Int64 → S → Prop} {px : SX → Prop} {B : S → State → Prop} {BX : String → SX → State → Prop} {AX : Nat → Prop} (hr : vx_Run p l e R s m args below meth c H locs cells slots mc ms (F0 m pc ls st0) rest (va_Ql post B A1 a) (vx_X px BX AX) free) (hS : va_S A0 H0 H locs) (hA : ∀ q, q < H.size → A1 q → A0 q) (hf : ∀ q, free q → A0 q) (hAX : ∀ q, q < H.size → AX q → A0 q)
    (kx : ∀ (E : String) (ce : Cell) (q9 : Addr) (u : SX) (t : State) (H1 : Heap) (locs1 : List Loc), t.heap = H1 → s.vm.Alike t.vm → px u → BX E u t → H.size ≤ H1.size → (∀ q : Nat, q < H.size → ¬ AX q → H1[q]? = H[q]?) → va_S A0 H0 H1 locs1 → H1[q9]? = some ce → ce.vm = .none → s.vm.findClass E = some ce.cls → vx_W p l e R s m args below meth c H1 locs1 (cells + mc) (slots + ms) Q (F0 m pc ls rest) q9)
    (kk : ∀ (r : Int64) (u : S) (t : State) (H1 : Heap) (locs1 : List Loc), t.heap = H1 → s.vm.Alike t.vm → post r u → B u t → H.size ≤ H1.size → (∀ q : Nat, q < H.size → ¬ A1 q → H1[q]? = H[q]?) → va_S A0 H0 H1 locs1 → W p l e R s m args below meth c H1 locs1 (cells + mc) (slots + ms) Q (F0 m (pc + 3) ls (.long r :: rest))) : W p l e R s m args below meth c H locs cells slots Q (F0 m pc ls st0) := by
  intro T hT X
  rcases hr T hT X with ⟨v, st₀, t, T', L, h0, X', hL, e1, e2, ⟨⟨r, u, hv, hp, hb⟩, hF⟩, st⟩ | ⟨q, st₀, t, T', L, E, ce, h0, X', hL, e1, e2, ⟨u, hp, hb, hF⟩, hce, hcv, hcl, st⟩
  · cases hv
    obtain ⟨k1, k2, k3⟩ := vx_keep h0 e1 hS hA hf hL hF
    obtain ⟨t2, a1, b1⟩ := kk r u t T'.heap (locs ++ L) e1.symm (by rw [← e2]; exact X'.warmed.alike) hp hb k1 k2 k3 T' rfl X'
    exact ⟨t2, st t2 a1, b1⟩
  · obtain ⟨k1, k2, k3⟩ := vx_keep h0 e1 hS hAX hf hL hF
    obtain ⟨t2, a1, b1⟩ := kx E ce q u t T'.heap (locs ++ L) e1.symm (by rw [← e2]; exact X'.warmed.alike) hp hb k1 k2 k3 (by rw [e1]; exact hce) hcv hcl T' rfl X'
    exact ⟨t2, st.trans a1, b1⟩
theorem vx_callf {S SX : Type} {post : UInt32 → S → Prop} {px : SX → Prop} {B : S → State → Prop} {BX : String → SX → State → Prop} {AX : Nat → Prop} (hr : vx_Run p l e R s m args below meth c H locs cells slots mc ms (F0 m pc ls st0) rest (va_Qf post B A1 a) (vx_X px BX AX) free) (hS : va_S A0 H0 H locs) (hA : ∀ q, q < H.size → A1 q → A0 q) (hf : ∀ q, free q → A0 q) (hAX : ∀ q, q < H.size → AX q → A0 q)
    (kx : ∀ (E : String) (ce : Cell) (q9 : Addr) (u : SX) (t : State) (H1 : Heap) (locs1 : List Loc), t.heap = H1 → s.vm.Alike t.vm → px u → BX E u t → H.size ≤ H1.size → (∀ q : Nat, q < H.size → ¬ AX q → H1[q]? = H[q]?) → va_S A0 H0 H1 locs1 → H1[q9]? = some ce → ce.vm = .none → s.vm.findClass E = some ce.cls → vx_W p l e R s m args below meth c H1 locs1 (cells + mc) (slots + ms) Q (F0 m pc ls rest) q9)
    (kk : ∀ (r : UInt32) (u : S) (t : State) (H1 : Heap) (locs1 : List Loc), t.heap = H1 → s.vm.Alike t.vm → post r u → B u t → H.size ≤ H1.size → (∀ q : Nat, q < H.size → ¬ A1 q → H1[q]? = H[q]?) → va_S A0 H0 H1 locs1 → W p l e R s m args below meth c H1 locs1 (cells + mc) (slots + ms) Q (F0 m (pc + 3) ls (.float r :: rest))) : W p l e R s m args below meth c H locs cells slots Q (F0 m pc ls st0) := by
  intro T hT X
  rcases hr T hT X with ⟨v, st₀, t, T', L, h0, X', hL, e1, e2, ⟨⟨r, u, hv, hp, hb⟩, hF⟩, st⟩ | ⟨q, st₀, t, T', L, E, ce, h0, X', hL, e1, e2, ⟨u, hp, hb, hF⟩, hce, hcv, hcl, st⟩
  · cases hv
    obtain ⟨k1, k2, k3⟩ := vx_keep h0 e1 hS hA hf hL hF
    obtain ⟨t2, a1, b1⟩ := kk r u t T'.heap (locs ++ L) e1.symm (by rw [← e2]; exact X'.warmed.alike) hp hb k1 k2 k3 T' rfl X'
    exact ⟨t2, st t2 a1, b1⟩
  · obtain ⟨k1, k2, k3⟩ := vx_keep h0 e1 hS hAX hf hL hF
    obtain ⟨t2, a1, b1⟩ := kx E ce q u t T'.heap (locs ++ L) e1.symm (by rw [← e2]; exact X'.warmed.alike) hp hb k1 k2 k3 (by rw [e1]; exact hce) hcv hcl T' rfl X'
    exact ⟨t2, st.trans a1, b1⟩
theorem vx_calld {S SX : Type} {post : UInt64 → S → Prop} {px : SX → Prop} {B : S → State → Prop} {BX : String → SX → State → Prop} {AX : Nat → Prop} (hr : vx_Run p l e R s m args below meth c H locs cells slots mc ms (F0 m pc ls st0) rest (va_Qd post B A1 a) (vx_X px BX AX) free) (hS : va_S A0 H0 H locs) (hA : ∀ q, q < H.size → A1 q → A0 q) (hf : ∀ q, free q → A0 q) (hAX : ∀ q, q < H.size → AX q → A0 q)
    (kx : ∀ (E : String) (ce : Cell) (q9 : Addr) (u : SX) (t : State) (H1 : Heap) (locs1 : List Loc), t.heap = H1 → s.vm.Alike t.vm → px u → BX E u t → H.size ≤ H1.size → (∀ q : Nat, q < H.size → ¬ AX q → H1[q]? = H[q]?) → va_S A0 H0 H1 locs1 → H1[q9]? = some ce → ce.vm = .none → s.vm.findClass E = some ce.cls → vx_W p l e R s m args below meth c H1 locs1 (cells + mc) (slots + ms) Q (F0 m pc ls rest) q9)
    (kk : ∀ (r : UInt64) (u : S) (t : State) (H1 : Heap) (locs1 : List Loc), t.heap = H1 → s.vm.Alike t.vm → post r u → B u t → H.size ≤ H1.size → (∀ q : Nat, q < H.size → ¬ A1 q → H1[q]? = H[q]?) → va_S A0 H0 H1 locs1 → W p l e R s m args below meth c H1 locs1 (cells + mc) (slots + ms) Q (F0 m (pc + 3) ls (.double r :: rest))) : W p l e R s m args below meth c H locs cells slots Q (F0 m pc ls st0) := by
  intro T hT X
  rcases hr T hT X with ⟨v, st₀, t, T', L, h0, X', hL, e1, e2, ⟨⟨r, u, hv, hp, hb⟩, hF⟩, st⟩ | ⟨q, st₀, t, T', L, E, ce, h0, X', hL, e1, e2, ⟨u, hp, hb, hF⟩, hce, hcv, hcl, st⟩
  · cases hv
    obtain ⟨k1, k2, k3⟩ := vx_keep h0 e1 hS hA hf hL hF
    obtain ⟨t2, a1, b1⟩ := kk r u t T'.heap (locs ++ L) e1.symm (by rw [← e2]; exact X'.warmed.alike) hp hb k1 k2 k3 T' rfl X'
    exact ⟨t2, st t2 a1, b1⟩
  · obtain ⟨k1, k2, k3⟩ := vx_keep h0 e1 hS hAX hf hL hF
    obtain ⟨t2, a1, b1⟩ := kx E ce q u t T'.heap (locs ++ L) e1.symm (by rw [← e2]; exact X'.warmed.alike) hp hb k1 k2 k3 (by rw [e1]; exact hce) hcv hcl T' rfl X'
    exact ⟨t2, st.trans a1, b1⟩
theorem vx_callv {S SX : Type} {post : S → Prop} {px : SX → Prop} {B : S → State → Prop} {BX : String → SX → State → Prop} {AX : Nat → Prop} (hr : vx_Run p l e R s m args below meth c H locs cells slots mc ms (F0 m pc ls st0) rest (va_Qv post B A1 a) (vx_X px BX AX) free) (hS : va_S A0 H0 H locs) (hA : ∀ q, q < H.size → A1 q → A0 q) (hf : ∀ q, free q → A0 q) (hAX : ∀ q, q < H.size → AX q → A0 q)
    (kx : ∀ (E : String) (ce : Cell) (q9 : Addr) (u : SX) (t : State) (H1 : Heap) (locs1 : List Loc), t.heap = H1 → s.vm.Alike t.vm → px u → BX E u t → H.size ≤ H1.size → (∀ q : Nat, q < H.size → ¬ AX q → H1[q]? = H[q]?) → va_S A0 H0 H1 locs1 → H1[q9]? = some ce → ce.vm = .none → s.vm.findClass E = some ce.cls → vx_W p l e R s m args below meth c H1 locs1 (cells + mc) (slots + ms) Q (F0 m pc ls rest) q9)
    (kk : ∀ (u : S) (t : State) (H1 : Heap) (locs1 : List Loc), t.heap = H1 → s.vm.Alike t.vm → post u → B u t → H.size ≤ H1.size → (∀ q : Nat, q < H.size → ¬ A1 q → H1[q]? = H[q]?) → va_S A0 H0 H1 locs1 → W p l e R s m args below meth c H1 locs1 (cells + mc) (slots + ms) Q (F0 m (pc + 3) ls (rest))) : W p l e R s m args below meth c H locs cells slots Q (F0 m pc ls st0) := by
  intro T hT X
  rcases hr T hT X with ⟨v, st₀, t, T', L, h0, X', hL, e1, e2, ⟨⟨u, hv, hp, hb⟩, hF⟩, st⟩ | ⟨q, st₀, t, T', L, E, ce, h0, X', hL, e1, e2, ⟨u, hp, hb, hF⟩, hce, hcv, hcl, st⟩
  · cases hv
    obtain ⟨k1, k2, k3⟩ := vx_keep h0 e1 hS hA hf hL hF
    obtain ⟨t2, a1, b1⟩ := kk u t T'.heap (locs ++ L) e1.symm (by rw [← e2]; exact X'.warmed.alike) hp hb k1 k2 k3 T' rfl X'
    exact ⟨t2, st t2 a1, b1⟩
  · obtain ⟨k1, k2, k3⟩ := vx_keep h0 e1 hS hAX hf hL hF
    obtain ⟨t2, a1, b1⟩ := kx E ce q u t T'.heap (locs ++ L) e1.symm (by rw [← e2]; exact X'.warmed.alike) hp hb k1 k2 k3 (by rw [e1]; exact hce) hcv hcl T' rfl X'
    exact ⟨t2, st.trans a1, b1⟩
/-- caught by the row x of this method's table; the rows ahead don't take it -/
theorem vx_catch {own name : String} {E : String} {ce : Cell} {q : Addr} (hown : s.vm.findClass own = some m.cls) (pre : List ExceptionTableEntry) (x : ExceptionTableEntry) (suf : List ExceptionTableEntry) (hsplit : c.exceptionTable.toList = pre ++ x :: suf)
    (hpass : ∀ z ∈ pre, covers z pc = false ∨ (z.catchType ≠ 0 ∧ ∃ nm : String, (Cond.classLink own z.catchType nm).before args s = true ∧ va_Nc E nm s)) (hx : covers x pc = true) (h0 : x.catchType ≠ 0)
    (hlink : (Cond.classLink own x.catchType name).before args s = true) (hcast : (Cond.castable E name).before args s = true) (hcell : H[q]? = some ce) (hv : ce.vm = .none) (hcl : s.vm.findClass E = some ce.cls)
    (kk : W p l e R s m args below meth c H locs cells slots Q (F0 m x.handlerPc ls [.ref q])) : vx_W p l e R s m args below meth c H locs cells slots Q (F0 m pc ls rest) q := by
  intro T hT X
  have hpl : e.platform.magicAccessors = ({} : Platform).magicAccessors := by rw [X.admits.platform]
  obtain ⟨c3, c4, hc3, hc4, hasg⟩ := Cond.castable_spec hcast
  cases Option.some.inj (hc3.symm.trans hcl)
  obtain ⟨c5, hc5, hcl5⟩ := Cond.classLink_spec hown hlink e.platform hpl
  cases Option.some.inj (hc4.symm.trans hc5)
  obtain ⟨vm', X', st⟩ := X.thenCaughtThrough q (g := F0 m pc ls rest) rfl (Steps.refl _) (by rw [hT]; exact hcell) (by rw [hv]; rfl) (by obtain ⟨k9, h9, -⟩ := Vm.findClass_spec hcl; exact ⟨k9, h9⟩) pre x suf hsplit
    (fun z hz => by
      rcases hpass z hz with h | ⟨hz0, nm, hl1, hn1⟩
      · exact Or.inl h
      · obtain ⟨c6, hc6, hcl6⟩ := Cond.classLink_spec hown hl1 e.platform hpl
        obtain ⟨a8, b8, h1, h2, h3⟩ := hn1
        cases Option.some.inj (h1.symm.trans hcl)
        cases Option.some.inj (h2.symm.trans hc6)
        exact Or.inr ⟨hz0, _, hcl6, h3⟩) hx (Or.inr ⟨h0, c4, hcl5, hasg⟩)
  obtain ⟨t, a1, b1⟩ := kk (T.setVm vm') hT X'
  exact ⟨t, st.trans a1, b1⟩
end Rows
section Ends
variable {p : Program} {l : Launch} {e : Env} {R : Room} {s : State} {m : MethodId} {args : Array Value} {below : List Frame} {meth : Method} {c : Code} {H : Heap} {locs : List Loc} {cells slots : Nat} {Q : State → Prop}
variable {mc ms : Nat} {free : Addr → Prop} {A0 A1 : Nat → Prop} {H0 : Heap} {a : Array Value} {ls : Array Slot} {st0 rest : List Value}
variable {Qc : Array Value → State → Outcome → State → Prop} {XC : String → State → State → Prop}
/-- what a body that may throw owes at its end -/
def vx_MQ (below : List Frame) (Qc : Array Value → State → Outcome → State → Prop) (XC : String → State → State → Prop) (a : Array Value) (s : State) (mc ms : Nat) (free : Addr → Prop) : State → Prop := fun t =>
  ∃ o, t.status = .running ∧ Ended t below o ∧ vx_Q Qc XC mc ms free a s o t
theorem vx_ret {g : JFrame} {mc ms : Nat} (k : W p l e R s m args below meth c H locs cells slots (MQ below Qc args s mc ms free) g) : W p l e R s m args below meth c H locs cells slots (vx_MQ below Qc XC args s mc ms free) g := by
  intro T hT X
  obtain ⟨t, a1, o, b1, b2, b3, b4⟩ := k T hT X
  exact ⟨t, a1, o, b1, b2, Or.inl ⟨b3, b4⟩⟩
/-- not caught here: it goes on to the caller -/
theorem vx_widen {g : JFrame} {q : Addr} {k n : Nat} (h1 : cells ≤ k) (h2 : slots ≤ n) (kk : vx_W p l e R s m args below meth c H locs k n Q g q) : vx_W p l e R s m args below meth c H locs cells slots Q g q := fun T hT X => kk T hT (stand_widen X h1 h2)
theorem vx_out {pc : Nat} {E : String} {ce : Cell} {q : Addr} {mc ms : Nat} (hout : ∀ x ∈ c.exceptionTable.toList, covers x pc = false) (hlocks : meth.locks = false) (hcell : H[q]? = some ce) (hv : ce.vm = .none) (hcl : s.vm.findClass E = some ce.cls)
    (hx : ∀ t : State, t.heap = H → s.vm.Alike t.vm → XC E s t) (hf : ∀ z ∈ locs, free z.base) (hc : cells ≤ mc) (hs : slots ≤ ms) :
    vx_W p l e R s m args below meth c H locs cells slots (vx_MQ below Qc XC args s mc ms free) (F0 m pc ls rest) q := by
  intro T hT X
  obtain ⟨st1, hrun, hend, hW, hsm⟩ := X.leaveThrown q (g := F0 m pc ls rest) rfl rfl rfl hout hlocks
  have hcell9 : (T.setFrames (.throwing q :: below)).heap[q]? = some ce := by
    show T.heap[q]? = some ce
    rw [hT]; exact hcell
  exact ⟨_, st1, .threw q, hrun, hend, Or.inr ⟨q, rfl, E, ce, locs, hx _ hT hW.alike, hcell9, hv, hcl, hW, hsm.mono hc hs, hf⟩⟩
theorem vx_frame {U : State} {k n : Nat} (h : s.sameButNew ({ U with vm := s.vm } : State) locs k n) : s.heap.size ≤ U.heap.size ∧ ∀ q : Nat, q < s.heap.size → (∀ z ∈ locs, z.base ≠ q) → U.heap[q]? = s.heap[q]? := by
  obtain ⟨-, h2, -, -, -, h6⟩ := h
  refine ⟨h2, fun q hq hz => ?_⟩
  obtain ⟨c9, e1, e2, e3, e4⟩ := h6 q _ (Array.getElem?_eq_getElem hq)
  have hs : c9.slots = (s.heap[q]).slots := Array.ext_getElem? fun i => e4 i fun hm => hz _ hm rfl
  have h9 : c9 = s.heap[q] := by
    rw [hs] at e2
    exact e2
  have e5 : U.heap[q]? = some c9 := e1
  rw [e5, h9, Array.getElem?_eq_getElem hq]
/-- the words of a throw but the four that speak of the heap -/
def vx_no (w : Cond) : Bool := decide (w ≠ .isRef (.static Bundle.tN "UNASSIGNED_STACK" Bundle.steD)) && decide (w ≠ .isRef (.static Bundle.tN "SUPPRESSED_SENTINEL" Bundle.listD)) && decide (w ≠ .laysStatic Bundle.tN "UNASSIGNED_STACK" Bundle.steD) && decide (w ≠ .laysStatic Bundle.tN "SUPPRESSED_SENTINEL" Bundle.listD)
def vx_at0 (own : String) (ic : Nat) (X : String) (names : List String) : List Cond := (Bundle.ownAtoms0 own ic X names).filter vx_no
def vx_atS (own : String) (ic : Nat) (X : String) (names : List String) : List Cond := (Bundle.ownAtoms own ic X names).filter vx_no
/-- a word that the tables alone decide, or a good one -/
def vx_ot (w : Cond) : Bool := w.onTables || goodWord w
theorem vx_ot_at {args a' : Array Value} {s U : State} {w : Cond} (hW : s.WarmedH U.vm) (hvm : s.vm = U.vm) (hg : vx_ot w = true) (h : w.before args s = true) : w.before a' U = true := by
  simp only [vx_ot, Bool.or_eq_true] at hg
  rcases hg with hg | hg
  · exact va_tabs hg hvm h
  · exact word_at hW (good_of_word hg) h
/-- a list's words: the good ones out of the method's own list, the others by premises of their own -/
theorem vx_hat {args : Array Value} {s : State} {L B : List Cond} (h1 : ∀ w ∈ L.filter goodWord, w.before args s = true) (h2 : ∀ w ∈ L.filter (fun w => !goodWord w), w ∈ B) (h3 : ∀ w ∈ B, w.before args s = true) : ∀ w ∈ L, w.before args s = true := by
  intro w hw
  by_cases g : goodWord w = true
  · exact h1 w (List.mem_filter.mpr ⟨hw, g⟩)
  · refine h3 w (h2 w (List.mem_filter.mpr ⟨hw, ?_⟩))
    show (!goodWord w) = true
    cases hgw : goodWord w
    · rfl
    · exact absurd hgw g
theorem vx_c {args : Array Value} {s : State} {w : Cond} {B : List Cond} (h : w.before args s = true) (t : ∀ w ∈ B, w.before args s = true) : ∀ w' ∈ w :: B, w'.before args s = true := fun w' h' => (List.mem_cons.mp h').elim (fun e => by rw [e]; exact h) (t w')
theorem vx_n {args : Array Value} {s : State} : ∀ w ∈ ([] : List Cond), w.before args s = true := fun _ h => nomatch h
theorem vx_own {args : Array Value} {s : State} {L : List Cond} (h1 : ∀ w ∈ L.filter vx_no, w.before args s = true)
    (hU : (Cond.isRef (.static Bundle.tN "UNASSIGNED_STACK" Bundle.steD)).before args s = true) (hN : (Cond.isRef (.static Bundle.tN "SUPPRESSED_SENTINEL" Bundle.listD)).before args s = true)
    (lU : (Cond.laysStatic Bundle.tN "UNASSIGNED_STACK" Bundle.steD).before args s = true) (lN : (Cond.laysStatic Bundle.tN "SUPPRESSED_SENTINEL" Bundle.listD).before args s = true) : ∀ w ∈ L, w.before args s = true := by
  intro w hw
  by_cases e1 : w = .isRef (.static Bundle.tN "UNASSIGNED_STACK" Bundle.steD)
  · rw [e1]; exact hU
  · by_cases e2 : w = .isRef (.static Bundle.tN "SUPPRESSED_SENTINEL" Bundle.listD)
    · rw [e2]; exact hN
    · by_cases e3 : w = .laysStatic Bundle.tN "UNASSIGNED_STACK" Bundle.steD
      · rw [e3]; exact lU
      · by_cases e4 : w = .laysStatic Bundle.tN "SUPPRESSED_SENTINEL" Bundle.listD
        · rw [e4]; exact lN
        · exact h1 w (List.mem_filter.mpr ⟨hw, by unfold vx_no; rw [decide_eq_true e1, decide_eq_true e2, decide_eq_true e3, decide_eq_true e4]; rfl⟩)
/-- where a static field lies, its class's statics cell in H -/
def vx_L (C n d : String) (A : Nat → Prop) (U : State) (H : Heap) : Prop := ∃ (c : ClassId) (k : Class) (i : Nat) (f : Field) (a : Nat) (cell : Cell), U.vm.findClass C = some c ∧ U.fieldFound? C n d = some (c, k, i, f) ∧ f.isStatic = true ∧ k.statics = some a ∧ H[a]? = some cell ∧ cell.vm.isStatics = true ∧ cell.cls = c ∧ f.slot < cell.slots.size ∧ k.staticTypes[f.slot]? = some f.type ∧ ¬ A a
theorem vx_L.moved {C n d : String} {A : Nat → Prop} {u U : State} {H : Heap} (hvm : u.vm.Alike U.vm) (h : vx_L C n d A u H) : vx_L C n d A U H := by
  obtain ⟨c, k, i, f, a, cell, h1, h2, h3, h4, h5, h6, h7, h8, h9, h10⟩ := h
  obtain ⟨k', hi', he⟩ := State.fieldFound?_setVm hvm h2
  exact ⟨c, k', i, f, a, cell, by rw [hvm.findClass]; exact h1, hi', h3, by rw [he]; exact h4, h5, h6, h7, h8, by rw [he]; exact h9, h10⟩
theorem vx_L.kept {C n d : String} {A : Nat → Prop} {U : State} {H H1 : Heap} (h : vx_L C n d A U H) (hq : ∀ a : Nat, a < H.size → ¬ A a → H1[a]? = H[a]?) : vx_L C n d A U H1 := by
  obtain ⟨c, k, i, f, a, cell, h1, h2, h3, h4, h5, h6, h7, h8, h9, h10⟩ := h
  exact ⟨c, k, i, f, a, cell, h1, h2, h3, h4, by rw [hq a (Array.getElem?_eq_some_iff.mp h5).1 h10]; exact h5, h6, h7, h8, h9, h10⟩
theorem vx_L.narrow {C n d : String} {A B : Nat → Prop} {U : State} {H : Heap} (h : vx_L C n d A U H) (hAB : ∀ q, B q → A q) : vx_L C n d B U H := by
  obtain ⟨c, k, i, f, a, cell, h1, h2, h3, h4, h5, h6, h7, h8, h9, h10⟩ := h
  exact ⟨c, k, i, f, a, cell, h1, h2, h3, h4, h5, h6, h7, h8, h9, fun z => h10 (hAB _ z)⟩
theorem vx_L.word {C n d : String} {A : Nat → Prop} {s : State} {args : Array Value} (h : vx_L C n d A s s.heap) : (Cond.laysStatic C n d).before args s = true := by
  obtain ⟨c, k, i, f, a, cell, h1, h2, h3, h4, h5, h6, h7, h8, h9, -⟩ := h
  show (Cond.laysStatic C n d).holds args s none s [] = true
  exact Cond.laysStatic_of h1 h2 h3 h4 h5 h6 h7 h8 h9
/-- .. and what it holds: null or some reference -/
def vx_Zq (C n d : String) (A : Nat → Prop) (U : State) (H : Heap) : Prop := va_Zq C n d A U H ∧ vx_L C n d A U H
theorem vx_Zq.moved {C n d : String} {A : Nat → Prop} {u U : State} {H : Heap} (hvm : u.vm.Alike U.vm) (h : vx_Zq C n d A u H) : vx_Zq C n d A U H := ⟨va_Zq.moved hvm h.1, vx_L.moved hvm h.2⟩
theorem vx_Zq.kept {C n d : String} {A : Nat → Prop} {U : State} {H H1 : Heap} (h : vx_Zq C n d A U H) (hq : ∀ a : Nat, a < H.size → ¬ A a → H1[a]? = H[a]?) : vx_Zq C n d A U H1 := ⟨va_Zq.kept h.1 hq, vx_L.kept h.2 hq⟩
theorem vx_Zq.narrow {C n d : String} {A B : Nat → Prop} {U : State} {H : Heap} (h : vx_Zq C n d A U H) (hAB : ∀ q, B q → A q) : vx_Zq C n d B U H := ⟨va_Zq.narrow h.1 hAB, vx_L.narrow h.2 hAB⟩
theorem vx_Zqof {args : Array Value} {s : State} {C n d : String} {A : Nat → Prop} (hl : (Cond.laysStatic C n d).before args s = true) (hini : (Cond.initialized C).before args s = true) (h : (Cond.isRef (.static C n d)).before args s = true) (hA : ∀ a : Nat, a < s.heap.size → ¬ A a) : vx_Zq C n d A s s.heap := by
  refine ⟨va_Zqof hl hini h hA, ?_⟩
  obtain ⟨c, k, i, f, a, cell, h1, h2, h3, h4, h5, h6, h7, h8, h9⟩ := Cond.laysStatic_spec hl
  exact ⟨c, k, i, f, a, cell, h1, h2, h3, h4, h5, h6, h7, h8, h9, hA a (Array.getElem?_eq_some_iff.mp h5).1⟩
theorem vx_isRef {C n d : String} {v : Value} {A : Nat → Prop} {s : State} {args : Array Value} (h : va_Z C n d v A s s.heap) (hv : v.isRef = true) : (Cond.isRef (.static C n d)).before args s = true := by
  obtain ⟨cf, kf, fi, f, a, cell, h1, h2, h3, h4, h5, h6, h7, -⟩ := h
  have he : (Term.static C n d).eval args s none [] s = some v := by
    simp [Term.eval, State.fieldNamed?, h1, h2, h4, h5, h6, h7]
  simp only [Cond.before, Cond.holds, Cond.value, he]
  cases v <;> simp_all [Value.isRef]
theorem vx_isRefq {C n d : String} {A : Nat → Prop} {s : State} {args : Array Value} (h : va_Zq C n d A s s.heap) : (Cond.isRef (.static C n d)).before args s = true := by
  rcases h with h | ⟨t, h⟩
  · exact vx_isRef h rfl
  · exact vx_isRef h rfl
/-- the same frame, seen from here: as if the method were called anew in this heap -/
theorem vx_rebase {T : State} (X : Stand p l e R s m args below meth c T locs cells slots) {R' : Room} (hf : R'.frames ≤ R.frames) (hl : R'.locals ≤ R.locals) (hc : cells + R'.cells ≤ R.cells) (hs : slots + R'.slots ≤ R.slots) :
    Stand p l e R' ((T.setVm s.vm).setFrames (.invoking m args :: below)) m args below meth c T [] 0 0 := by
  have htop : (T.setVm s.vm).topJava?.isSome := X.here.top
  have hF : ((T.setVm s.vm).setFrames (.invoking m args :: below)).frames = .invoking m args :: below := State.frames_setFrames _ (State.cur_lt_of_top htop)
  obtain ⟨g₀, hg0⟩ := Option.isSome_iff_exists.mp htop
  obtain ⟨r, hr⟩ := State.topJava?_eq_some.mp hg0
  have hl9 : e.platform.stackLimits (T.setVm s.vm).me = e.platform.stackLimits s.me := X.limits
  have hb9 : (T.setVm s.vm).me.stackBytes = s.me.stackBytes := X.bytes
  refine ⟨X.admits, X.cas, X.clock, hF, ?_, X.hears, X.method, X.code, X.here, X.tail, X.warmed, ?_, ?_, ?_⟩
  · have h := X.room
    have hU : ((T.setVm s.vm).setFrames (.invoking m args :: below)).localsInUse = s.localsInUse := by
      rw [State.localsInUse_invoking hF (meth := meth) (c := c) X.method X.code, State.localsInUse_invoking X.frames X.method X.code]
    simp only [State.hasRoom, Bool.and_eq_true, decide_eq_true_eq] at h ⊢
    obtain ⟨⟨⟨⟨h1, h2, h3, h4, h5, h6⟩, h7⟩, h8⟩, h9⟩ := h
    rw [X.frames, List.length_cons] at h2 h3
    have q1 := X.heapSize
    have q2 := X.used
    simp only [hF, hU, List.length_cons, State.stackLimits_setFrames, State.stackBytes_setFrames, hl9, hb9]
    refine ⟨⟨⟨⟨by omega, by omega, by omega, by omega, by omega, h6⟩, ?_⟩, ?_⟩, X.book⟩
    · show T.heap.size + R'.cells ≤ e.platform.maxCells
      omega
    · show T.slotsUsed + R'.slots ≤ e.platform.maxSlots
      omega
  · rw [State.stackLimits_setFrames]; rfl
  · rw [State.stackBytes_setFrames]; rfl
  · refine ⟨?_, Nat.le_refl _, Nat.le_refl _, ?_, ?_, fun a c9 h9 => ⟨c9, h9, rfl, rfl, fun _ _ => rfl⟩⟩
    · obtain ⟨t, ht, -⟩ := State.frames_cons hr
      show T.setVm s.vm = { ((T.setVm s.vm).setFrames (.invoking m args :: below)).setFrames (T.setVm s.vm).frames with heap := T.heap, slotsUsed := T.slotsUsed }
      rw [State.setFrames_setFrames, State.setFrames_self ht]
      rfl
    · show T.slotsUsed = T.slotsUsed + ((T.heap.toList.drop T.heap.size).map (·.slots.size)).sum
      rw [List.drop_eq_nil_of_le (Nat.le_of_eq Array.length_toList)]
      rfl
    · show ((T.heap.toList.drop T.heap.size).map (·.slots.size)).sum ≤ 0
      rw [List.drop_eq_nil_of_le (Nat.le_of_eq Array.length_toList)]
      exact Nat.le_refl _
/-- 'throw new E()': new; dup; invokespecial; athrow -/
theorem vx_throw0 {cc : ByteArray} {pc : Nat} (hexec : p.tables.exec = Jvm.exec) (hb : c.code = cc) (hl : l.stackTraces = false) {own cls : String} {names : List String} {ik ic mc ms : Nat} {A : Nat → Prop}
    (hown : s.vm.findClass own = some m.cls) (hcls : Bundle.fit cls = true) (hnames : ∀ n ∈ names, Bundle.fit n = true)
    (hk : (Cond.classLink own ik cls).before args s = true) (hini : (Cond.initialized cls).before args s = true) (hat : ∀ w ∈ vx_at0 own ic cls names, w.before args s = true)
    (hgood : ∀ w ∈ Cond.classLink own ik cls :: Cond.initialized cls :: vx_at0 own ic cls names, vx_ot w = true)
    (hU : vx_Zq Bundle.tN "UNASSIGNED_STACK" Bundle.steD A s s.heap) (hN : vx_Zq Bundle.tN "SUPPRESSED_SENTINEL" Bundle.listD A s s.heap) (hS : va_S A s.heap H locs) (hsize : ls.size = c.maxLocals)
    (d0 : decode cc pc = .ok (.new ik, 3)) (d3 : decode cc (pc + 3) = .ok (.dup, 1)) (d4 : decode cc (pc + 4) = .ok (.invokespecial ic, 3)) (d7 : decode cc (pc + 7) = .ok (.athrow, 1))
    (hout : ∀ x ∈ c.exceptionTable.toList, covers x (pc + 7) = false)
    (hRframes : names.length + 3 < R.frames) (hRlocals : (rest.map fun v => v.category).sum + (13 * (names.length + 1) + 42) ≤ R.locals) (hRcells : cells + 1 ≤ R.cells) (hRslots : slots + 6 ≤ R.slots) (hlocks : meth.locks = false)
    (hx : ∀ t : State, s.vm.Alike t.vm → H.size ≤ t.heap.size → (∀ q : Nat, q < H.size → t.heap[q]? = H[q]?) → XC cls s t)
    (hf : ∀ z ∈ locs, free z.base) (hc : cells + 1 ≤ mc) (hs : slots + 6 ≤ ms) :
    W p l e R s m args below meth c H locs cells slots (vx_MQ below Qc XC args s mc ms free) (F0 m pc ls rest) := by
  intro T hT X
  have htr : e.platform.stackTraces = false := (show e.platform.stackTraces = l.stackTraces by rw [X.admits.platform]).trans hl
  have Y := vx_rebase X (R' := { frames := R.frames, locals := R.locals, cells := 1, slots := 6 }) (Nat.le_refl _) (Nat.le_refl _) hRcells hRslots
  obtain ⟨s', hA⟩ : ∃ z, z = (T.setVm s.vm).setFrames (.invoking m args :: below) := ⟨_, rfl⟩
  rw [← hA] at Y
  have hvm : s'.vm = s.vm := by rw [hA]; rfl
  have hhp : s'.heap = H := by rw [hA]; exact hT
  have hW0 : s.WarmedH s'.vm := by rw [hvm]; exact State.WarmedH.refl s
  have hat' : ∀ w ∈ vx_at0 own ic cls names, w.before args s' = true := fun w hw => vx_ot_at hW0 hvm.symm (hgood w (List.mem_cons_of_mem _ (List.mem_cons_of_mem _ hw))) (hat w hw)
  have hk' : (Cond.classLink own ik cls).before args s' = true := vx_ot_at hW0 hvm.symm (hgood _ List.mem_cons_self) hk
  have hini' : (Cond.initialized cls).before args s' = true := vx_ot_at hW0 hvm.symm (hgood _ (List.mem_cons_of_mem _ List.mem_cons_self)) hini
  have hU' : vx_Zq Bundle.tN "UNASSIGNED_STACK" Bundle.steD A s' s'.heap := by rw [hhp]; exact vx_Zq.moved hW0.alike (hU.kept hS.2.1)
  have hN' : vx_Zq Bundle.tN "SUPPRESSED_SENTINEL" Bundle.listD A s' s'.heap := by rw [hhp]; exact vx_Zq.moved hW0.alike (hN.kept hS.2.1)
  have h : ∀ w ∈ Bundle.ownAtoms0 own ic cls names, w.before args s' = true := vx_own hat' (vx_isRefq hU'.1) (vx_isRefq hN'.1) hU'.2.word hN'.2.word
  have hown' : s'.vm.findClass own = some m.cls := by rw [hvm]; exact hown
  have hins : (Cond.instantiable cls 6).before args s' = true := h _ (by simp [Bundle.ownAtoms0])
  obtain ⟨vm₁, cX, kX, hfX, hkX, -, -, X₁, st1⟩ := Y.newCold hexec (own := own) (C := cls) (index := ik) (n := 6) hown' hk' hins hini'
    (g := F0 m pc ls rest) rfl (by rw [hb]; exact d0) (Nat.le_refl _) (Nat.le_refl _)
  generalize hT1 : (T.setVm vm₁).pushCell { cls := cX, slots := kX.instanceTypes.map defaultValue, vm := .none } = T1 at X₁ st1
  have hcat : (Value.ref T.heap.size).category = 1 := rfl
  have hcellA : T1.heap[T.heap.size]? = some (freshCell cX kX) := by rw [← hT1]; exact State.heap_pushCell_size _ _
  have d3' : decode c.code (pc + 3) = .ok (.dup, 1) := by rw [hb]; exact d3
  obtain ⟨U, hsteps, hrun, hend, hW, hsame, ce, hce, hO⟩ := X₁.ctorThrow0 hexec htr (own := own) (cls := cls) (names := names) (ic := ic) hown' hcls hnames h (fun x hx => nomatch hx) hfX hkX hcellA (by rw [hhp, hT]; exact Nat.le_refl _)
    (g := { method := m, pc := pc + 4, locals := ls, stack := .ref T.heap.size :: .ref T.heap.size :: rest, locked := none }) rfl hsize rfl rfl (rest := rest) rfl
    (by rw [hb]; exact d4) (by rw [hb]; exact d7) hout hRframes (by simp only [List.map_cons, List.sum_cons, hcat]; omega) hlocks
  obtain ⟨f1, f2⟩ := vx_frame hsame
  rw [hhp] at f1 f2
  have hWs : s.WarmedH U.vm := State.WarmedH.trans hW0 hW
  have hcl : s.vm.findClass cls = some ce.cls := by
    have h9 := hO.cls
    rw [hvm] at h9
    exact h9
  have hall : s.sameButNew ({ U with vm := s.vm } : State) locs mc ms := by
    subst hA
    obtain ⟨e1, e2⟩ := hsame
    rw [State.setFrames_setFrames] at e1
    have h2 : (T.setVm s.vm).sameButNew ({ U with vm := s.vm } : State) [] (0 + 1) (0 + 6) := ⟨e1, e2⟩
    have h3 := X.same.trans h2
    rw [List.append_nil] at h3
    exact h3.mono hc hs
  refine ⟨U, ?_, .threw T.heap.size, hrun, hend, Or.inr ⟨T.heap.size, rfl, cls, ce, locs, hx U hWs.alike f1 (fun q hq => f2 q hq (fun z hz => nomatch hz)), hce, hO.vm, hcl, hWs, hall, hf⟩⟩
  refine st1 _ ?_
  show Steps p.tables e below (T1.setTop { method := m, pc := pc + 3, locals := ls, stack := .ref T.heap.size :: rest, locked := none }) _
  jvm_step X₁.here [X₁.here.top, hexec, d3', Value.category]
  exact hsteps
/-- 'throw new E("text")': new; dup; ldc; invokespecial; athrow -/
theorem vx_throwS {cc : ByteArray} {pc : Nat} (hexec : p.tables.exec = Jvm.exec) (hb : c.code = cc) (hl : l.stackTraces = false) {own cls text : String} {names : List String} {ik is ic mc ms sa : Nat} {A : Nat → Prop}
    (hown : s.vm.findClass own = some m.cls) (hcls : Bundle.fit cls = true) (hnames : ∀ n ∈ names, Bundle.fit n = true)
    (hk : (Cond.classLink own ik cls).before args s = true) (hini : (Cond.initialized cls).before args s = true) (hstr : vk_R own is text sa s) (hat : ∀ w ∈ vx_atS own ic cls names, w.before args s = true)
    (hgood : ∀ w ∈ Cond.classLink own ik cls :: Cond.initialized cls :: vx_atS own ic cls names, vx_ot w = true)
    (hU : vx_Zq Bundle.tN "UNASSIGNED_STACK" Bundle.steD A s s.heap) (hN : vx_Zq Bundle.tN "SUPPRESSED_SENTINEL" Bundle.listD A s s.heap) (hS : va_S A s.heap H locs) (hsize : ls.size = c.maxLocals)
    (d0 : decode cc pc = .ok (.new ik, 3)) (d3 : decode cc (pc + 3) = .ok (.dup, 1)) (d4 : decode cc (pc + 4) = .ok (.ldc is, 2)) (d6 : decode cc (pc + 6) = .ok (.invokespecial ic, 3)) (d9 : decode cc (pc + 9) = .ok (.athrow, 1))
    (hout : ∀ x ∈ c.exceptionTable.toList, covers x (pc + 9) = false)
    (hRframes : names.length + 3 < R.frames) (hRlocals : (rest.map fun v => v.category).sum + (13 * (names.length + 1) + 43) ≤ R.locals) (hRcells : cells + 1 ≤ R.cells) (hRslots : slots + 6 ≤ R.slots) (hlocks : meth.locks = false)
    (hx : ∀ t : State, s.vm.Alike t.vm → H.size ≤ t.heap.size → (∀ q : Nat, q < H.size → t.heap[q]? = H[q]?) → XC cls s t)
    (hf : ∀ z ∈ locs, free z.base) (hc : cells + 1 ≤ mc) (hs : slots + 6 ≤ ms) :
    W p l e R s m args below meth c H locs cells slots (vx_MQ below Qc XC args s mc ms free) (F0 m pc ls rest) := by
  intro T hT X
  have htr : e.platform.stackTraces = false := (show e.platform.stackTraces = l.stackTraces by rw [X.admits.platform]).trans hl
  have Y := vx_rebase X (R' := { frames := R.frames, locals := R.locals, cells := 1, slots := 6 }) (Nat.le_refl _) (Nat.le_refl _) hRcells hRslots
  obtain ⟨s', hA⟩ : ∃ z, z = (T.setVm s.vm).setFrames (.invoking m args :: below) := ⟨_, rfl⟩
  rw [← hA] at Y
  have hvm : s'.vm = s.vm := by rw [hA]; rfl
  have hhp : s'.heap = H := by rw [hA]; exact hT
  have hW0 : s.WarmedH s'.vm := by rw [hvm]; exact State.WarmedH.refl s
  have hat' : ∀ w ∈ vx_atS own ic cls names, w.before args s' = true := fun w hw => vx_ot_at hW0 hvm.symm (hgood w (List.mem_cons_of_mem _ (List.mem_cons_of_mem _ hw))) (hat w hw)
  have hk' : (Cond.classLink own ik cls).before args s' = true := vx_ot_at hW0 hvm.symm (hgood _ List.mem_cons_self) hk
  have hini' : (Cond.initialized cls).before args s' = true := vx_ot_at hW0 hvm.symm (hgood _ (List.mem_cons_of_mem _ List.mem_cons_self)) hini
  have hU' : vx_Zq Bundle.tN "UNASSIGNED_STACK" Bundle.steD A s' s'.heap := by rw [hhp]; exact vx_Zq.moved hW0.alike (hU.kept hS.2.1)
  have hN' : vx_Zq Bundle.tN "SUPPRESSED_SENTINEL" Bundle.listD A s' s'.heap := by rw [hhp]; exact vx_Zq.moved hW0.alike (hN.kept hS.2.1)
  have h : ∀ w ∈ Bundle.ownAtoms own ic cls names, w.before args s' = true := vx_own hat' (vx_isRefq hU'.1) (vx_isRefq hN'.1) hU'.2.word hN'.2.word
  have hown' : s'.vm.findClass own = some m.cls := by rw [hvm]; exact hown
  have hins : (Cond.instantiable cls 6).before args s' = true := h _ (by simp [Bundle.ownAtoms])
  obtain ⟨vm₁, cX, kX, hfX, hkX, -, -, X₁, st1⟩ := Y.newCold hexec (own := own) (C := cls) (index := ik) (n := 6) hown' hk' hins hini'
    (g := F0 m pc ls rest) rfl (by rw [hb]; exact d0) (Nat.le_refl _) (Nat.le_refl _)
  generalize hT1 : (T.setVm vm₁).pushCell { cls := cX, slots := kX.instanceTypes.map defaultValue, vm := .none } = T1 at X₁ st1
  have hcat : (Value.ref T.heap.size).category = 1 := rfl
  have hcellA : T1.heap[T.heap.size]? = some (freshCell cX kX) := by rw [← hT1]; exact State.heap_pushCell_size _ _
  have d3' : decode c.code (pc + 3) = .ok (.dup, 1) := by rw [hb]; exact d3
  have d4' : decode c.code (pc + 4) = .ok (.ldc is, 2) := by rw [hb]; exact d4
  have hstr' : vk_R own is text sa s' := vk_R.warm hW0 hstr
  obtain ⟨U, hsteps, hrun, hend, hW, hsame, ce, hce, hO⟩ := X₁.ctorThrowS hexec htr (own := own) (cls := cls) (names := names) (ic := ic) hown' hcls hnames h (fun x hx => nomatch hx) hfX hkX hcellA (by rw [hhp, hT]; exact Nat.le_refl _) (msg := .ref sa) rfl
    (g := { method := m, pc := pc + 6, locals := ls, stack := .ref sa :: .ref T.heap.size :: .ref T.heap.size :: rest, locked := none }) rfl hsize rfl rfl (rest := rest) rfl
    (by rw [hb]; exact d6) (by rw [hb]; exact d9) hout hRframes (by simp only [List.map_cons, List.sum_cons, hcat]; omega) hlocks
  obtain ⟨f1, f2⟩ := vx_frame hsame
  rw [hhp] at f1 f2
  have hWs : s.WarmedH U.vm := State.WarmedH.trans hW0 hW
  have hcl : s.vm.findClass cls = some ce.cls := by
    have h9 := hO.cls
    rw [hvm] at h9
    exact h9
  have hall : s.sameButNew ({ U with vm := s.vm } : State) locs mc ms := by
    subst hA
    obtain ⟨e1, e2⟩ := hsame
    rw [State.setFrames_setFrames] at e1
    have h2 : (T.setVm s.vm).sameButNew ({ U with vm := s.vm } : State) [] (0 + 1) (0 + 6) := ⟨e1, e2⟩
    have h3 := X.same.trans h2
    rw [List.append_nil] at h3
    exact h3.mono hc hs
  refine ⟨U, ?_, .threw T.heap.size, hrun, hend, Or.inr ⟨T.heap.size, rfl, cls, ce, locs, hx U hWs.alike f1 (fun q hq => f2 q hq (fun z hz => nomatch hz)), hce, hO.vm, hcl, hWs, hall, hf⟩⟩
  refine st1 _ ?_
  show Steps p.tables e below (T1.setTop { method := m, pc := pc + 3, locals := ls, stack := .ref T.heap.size :: rest, locked := none }) _
  jvm_step X₁.here [X₁.here.top, hexec, d3', Value.category]
  exact X₁.ldcString hexec (own := own) (text := text) (index := is) (a := sa) hown' hstr'.1 hstr'.2
    (g := { method := m, pc := pc + 4, locals := ls, stack := .ref T.heap.size :: .ref T.heap.size :: rest, locked := none }) rfl d4' _ hsteps
/-- 'throw new E("text")', the text by a wide index -/
theorem vx_throwSW {cc : ByteArray} {pc : Nat} (hexec : p.tables.exec = Jvm.exec) (hb : c.code = cc) (hl : l.stackTraces = false) {own cls text : String} {names : List String} {ik is ic mc ms sa : Nat} {A : Nat → Prop}
    (hown : s.vm.findClass own = some m.cls) (hcls : Bundle.fit cls = true) (hnames : ∀ n ∈ names, Bundle.fit n = true)
    (hk : (Cond.classLink own ik cls).before args s = true) (hini : (Cond.initialized cls).before args s = true) (hstr : vk_R own is text sa s) (hat : ∀ w ∈ vx_atS own ic cls names, w.before args s = true)
    (hgood : ∀ w ∈ Cond.classLink own ik cls :: Cond.initialized cls :: vx_atS own ic cls names, vx_ot w = true)
    (hU : vx_Zq Bundle.tN "UNASSIGNED_STACK" Bundle.steD A s s.heap) (hN : vx_Zq Bundle.tN "SUPPRESSED_SENTINEL" Bundle.listD A s s.heap) (hS : va_S A s.heap H locs) (hsize : ls.size = c.maxLocals)
    (d0 : decode cc pc = .ok (.new ik, 3)) (d3 : decode cc (pc + 3) = .ok (.dup, 1)) (d4 : decode cc (pc + 4) = .ok (.ldc_w is, 3)) (d7 : decode cc (pc + 7) = .ok (.invokespecial ic, 3)) (d10 : decode cc (pc + 10) = .ok (.athrow, 1))
    (hout : ∀ x ∈ c.exceptionTable.toList, covers x (pc + 10) = false)
    (hRframes : names.length + 3 < R.frames) (hRlocals : (rest.map fun v => v.category).sum + (13 * (names.length + 1) + 43) ≤ R.locals) (hRcells : cells + 1 ≤ R.cells) (hRslots : slots + 6 ≤ R.slots) (hlocks : meth.locks = false)
    (hx : ∀ t : State, s.vm.Alike t.vm → H.size ≤ t.heap.size → (∀ q : Nat, q < H.size → t.heap[q]? = H[q]?) → XC cls s t)
    (hf : ∀ z ∈ locs, free z.base) (hc : cells + 1 ≤ mc) (hs : slots + 6 ≤ ms) :
    W p l e R s m args below meth c H locs cells slots (vx_MQ below Qc XC args s mc ms free) (F0 m pc ls rest) := by
  intro T hT X
  have htr : e.platform.stackTraces = false := (show e.platform.stackTraces = l.stackTraces by rw [X.admits.platform]).trans hl
  have Y := vx_rebase X (R' := { frames := R.frames, locals := R.locals, cells := 1, slots := 6 }) (Nat.le_refl _) (Nat.le_refl _) hRcells hRslots
  obtain ⟨s', hA⟩ : ∃ z, z = (T.setVm s.vm).setFrames (.invoking m args :: below) := ⟨_, rfl⟩
  rw [← hA] at Y
  have hvm : s'.vm = s.vm := by rw [hA]; rfl
  have hhp : s'.heap = H := by rw [hA]; exact hT
  have hW0 : s.WarmedH s'.vm := by rw [hvm]; exact State.WarmedH.refl s
  have hat' : ∀ w ∈ vx_atS own ic cls names, w.before args s' = true := fun w hw => vx_ot_at hW0 hvm.symm (hgood w (List.mem_cons_of_mem _ (List.mem_cons_of_mem _ hw))) (hat w hw)
  have hk' : (Cond.classLink own ik cls).before args s' = true := vx_ot_at hW0 hvm.symm (hgood _ List.mem_cons_self) hk
  have hini' : (Cond.initialized cls).before args s' = true := vx_ot_at hW0 hvm.symm (hgood _ (List.mem_cons_of_mem _ List.mem_cons_self)) hini
  have hU' : vx_Zq Bundle.tN "UNASSIGNED_STACK" Bundle.steD A s' s'.heap := by rw [hhp]; exact vx_Zq.moved hW0.alike (hU.kept hS.2.1)
  have hN' : vx_Zq Bundle.tN "SUPPRESSED_SENTINEL" Bundle.listD A s' s'.heap := by rw [hhp]; exact vx_Zq.moved hW0.alike (hN.kept hS.2.1)
  have h : ∀ w ∈ Bundle.ownAtoms own ic cls names, w.before args s' = true := vx_own hat' (vx_isRefq hU'.1) (vx_isRefq hN'.1) hU'.2.word hN'.2.word
  have hown' : s'.vm.findClass own = some m.cls := by rw [hvm]; exact hown
  have hins : (Cond.instantiable cls 6).before args s' = true := h _ (by simp [Bundle.ownAtoms])
  obtain ⟨vm₁, cX, kX, hfX, hkX, -, -, X₁, st1⟩ := Y.newCold hexec (own := own) (C := cls) (index := ik) (n := 6) hown' hk' hins hini'
    (g := F0 m pc ls rest) rfl (by rw [hb]; exact d0) (Nat.le_refl _) (Nat.le_refl _)
  generalize hT1 : (T.setVm vm₁).pushCell { cls := cX, slots := kX.instanceTypes.map defaultValue, vm := .none } = T1 at X₁ st1
  have hcat : (Value.ref T.heap.size).category = 1 := rfl
  have hcellA : T1.heap[T.heap.size]? = some (freshCell cX kX) := by rw [← hT1]; exact State.heap_pushCell_size _ _
  have d3' : decode c.code (pc + 3) = .ok (.dup, 1) := by rw [hb]; exact d3
  have d4' : decode c.code (pc + 4) = .ok (.ldc_w is, 3) := by rw [hb]; exact d4
  have hstr' : vk_R own is text sa s' := vk_R.warm hW0 hstr
  obtain ⟨U, hsteps, hrun, hend, hW, hsame, ce, hce, hO⟩ := X₁.ctorThrowS hexec htr (own := own) (cls := cls) (names := names) (ic := ic) hown' hcls hnames h (fun x hx => nomatch hx) hfX hkX hcellA (by rw [hhp, hT]; exact Nat.le_refl _) (msg := .ref sa) rfl
    (g := { method := m, pc := pc + 7, locals := ls, stack := .ref sa :: .ref T.heap.size :: .ref T.heap.size :: rest, locked := none }) rfl hsize rfl rfl (rest := rest) rfl
    (by rw [hb]; exact d7) (by rw [hb]; exact d10) hout hRframes (by simp only [List.map_cons, List.sum_cons, hcat]; omega) hlocks
  obtain ⟨f1, f2⟩ := vx_frame hsame
  rw [hhp] at f1 f2
  have hWs : s.WarmedH U.vm := State.WarmedH.trans hW0 hW
  have hcl : s.vm.findClass cls = some ce.cls := by
    have h9 := hO.cls
    rw [hvm] at h9
    exact h9
  have hall : s.sameButNew ({ U with vm := s.vm } : State) locs mc ms := by
    subst hA
    obtain ⟨e1, e2⟩ := hsame
    rw [State.setFrames_setFrames] at e1
    have h2 : (T.setVm s.vm).sameButNew ({ U with vm := s.vm } : State) [] (0 + 1) (0 + 6) := ⟨e1, e2⟩
    have h3 := X.same.trans h2
    rw [List.append_nil] at h3
    exact h3.mono hc hs
  refine ⟨U, ?_, .threw T.heap.size, hrun, hend, Or.inr ⟨T.heap.size, rfl, cls, ce, locs, hx U hWs.alike f1 (fun q hq => f2 q hq (fun z hz => nomatch hz)), hce, hO.vm, hcl, hWs, hall, hf⟩⟩
  refine st1 _ ?_
  show Steps p.tables e below (T1.setTop { method := m, pc := pc + 3, locals := ls, stack := .ref T.heap.size :: rest, locked := none }) _
  jvm_step X₁.here [X₁.here.top, hexec, d3', Value.category]
  exact X₁.ldcStringW hexec (own := own) (text := text) (index := is) (a := sa) hown' hstr'.1 hstr'.2
    (g := { method := m, pc := pc + 4, locals := ls, stack := .ref T.heap.size :: .ref T.heap.size :: rest, locked := none }) rfl d4' _ hsteps
end Ends
section Bodies
variable {l : Launch}
theorem vx_ofW {y : MethodName} {ws ws' : List Cond} {rm : Room} {Pc : Array Value → State → Prop} {Qc : Array Value → State → Outcome → State → Prop} {XC : String → State → State → Prop} {mc ms : Nat} {free : Addr → Prop} {cc : ByteArray} {maxL : Nat} {ret : Option FieldType}
    (hy : plainName y.cls = true) (hw : ws = Cond.code y cc maxL ret :: ws')
    (body : ∀ p e s m args below meth c s₁, BodyLoose p l y (headSpec ws rm) cc maxL ret e s m args below meth c s₁ → c.maxLocals = maxL → (∀ x ∈ c.exceptionTable.toList, False) → Pc args s →
      W p l e (headSpec ws rm).room s m args below meth c s.heap [] 0 0 (vx_MQ below Qc XC args s mc ms free) (entryFrame m args maxL)) : vx_Met l y ws rm Pc Qc XC mc ms free := by
  refine MetFree.of_bodyS (code := cc) (maxLocals := maxL) (ret := ret) hy ?_ ?_
  · intro args s m h hn
    obtain ⟨meth, c, h1, h2, h3, h4, h5, h6, -, -⟩ := Cond.code_spec hn (atoms_spec (ws := ws) h _ (by rw [hw]; exact List.mem_cons_self))
    exact ⟨meth, c, h1, h2, h3, h4, h5, h6⟩
  · intro p e s m args below meth c s₁ B hml hP _
    have hh0 : s₁.heap = s.heap := by rw [B.state]; rfl
    have ht : ∀ x ∈ c.exceptionTable.toList, False := by
      obtain ⟨meth9, c9, h1, h2, -, -, -, -, h7, -⟩ := Cond.code_spec B.named (atoms_spec (ws := ws) B.pre _ (by rw [hw]; exact List.mem_cons_self))
      cases Option.some.inj (h1.symm.trans B.method)
      cases Option.some.inj (h2.symm.trans (Stand.of_body B).code)
      intro x hx
      rw [Array.isEmpty_iff.mp h7] at hx
      cases hx
    obtain ⟨t, a1, o, b1, b2, b3⟩ := body p e s m args below meth c s₁ B hml ht hP s₁ hh0 (Stand.of_body B)
    exact ⟨t, o, a1, b1, b2, b3⟩
/-- the table of a body with handlers -/
theorem vx_table {p : Program} {x y : MethodName} {S : Spec} {cc bytes : ByteArray} {maxL maxL' : Nat} {ret ret' : Option FieldType} {e : Env} {s s₁ : State} {m : MethodId} {args : Array Value} {below : List Frame} {meth : Method} {c : Code} {hh : List (Nat × Nat × Nat × Nat)}
    (B : BodyLoose p l y S cc maxL ret e s m args below meth c s₁) (h : (Cond.codeWith y bytes maxL' ret' hh).before args s = true) : c.exceptionTable.toList = tableOf hh := by
  obtain ⟨m9, meth9, c9, hn9, h1, h2, -, -, h6, -⟩ := Cond.codeWith_spec h
  cases Option.some.inj (hn9.symm.trans B.named)
  cases Option.some.inj (h1.symm.trans B.method)
  cases Option.some.inj (h2.symm.trans (Stand.of_body B).code)
  rw [← h6, table_eq]
end Bodies
end VXA
/-! ===== END ===== -/
/-! ===== BEGIN a static call of a method with an exception table ===== -/
section VXS
variable {p : Program} {l : Launch} {e : Env} {R : Room} {s : State} {m : MethodId} {args : Array Value} {below : List Frame} {meth : Method} {c : Code} {T : State} {H : Heap} {locs : List Loc} {cells slots : Nat}
abbrev vx_CSW (R : Room) (s : State) (args : Array Value) (own : String) (index : Nat) (y : MethodName) (bytes : ByteArray) (maxL : Nat) (ret : Option FieldType) (hh : List (Nat × Nat × Nat × Nat)) (ws : List Cond) (rm : Room) (mc ms n : Nat) : Prop :=
  (rm.cells = mc ∧ rm.slots = ms ∧ rm.frames + 1 ≤ R.frames ∧ 8 + (maxL + 11) + rm.locals ≤ R.locals ∧ (∀ w ∈ ws, ∀ (a' : Array Value) (U : State), s.WarmedH U.vm → w.before a' U = true) ∧ Cond.codeWith y bytes maxL ret hh ∈ ws) ∧
  (Cond.codeWith y bytes maxL ret hh).before args s = true ∧ (Cond.initialized y.cls).before args s = true ∧ (y.cls ≠ "java/lang/invoke/MethodHandle" ∧ y.cls ≠ "java/lang/invoke/VarHandle") ∧
  (∀ sig, parseMethodDescriptor y.desc = some sig → n = sig.parameters.length) ∧ (Cond.methodLink own index y).before args s = true ∧ (Cond.static y).before args s = true
theorem vx_cwSW {own : String} {index maxL mc ms : Nat} {y : MethodName} {bytes : ByteArray} {ret : Option FieldType} {hh : List (Nat × Nat × Nat × Nat)} {Ts ws ws' : List Cond} {rm : Room} (n : Nat) (ht : ∀ w ∈ Ts, w.before args s = true) (hT : GoodIn Ts (va_wsS own index y ws)) (hw : ws = Cond.codeWith y bytes maxL ret hh :: ws') (hrc : rm.cells = mc) (hrs : rm.slots = ms)
    (hd : y.cls ≠ "java/lang/invoke/MethodHandle" ∧ y.cls ≠ "java/lang/invoke/VarHandle" ∧ (parseMethodDescriptor y.desc).map (fun d => d.parameters.length) = some n) (hR : rm.frames + 1 ≤ R.frames ∧ 8 + (maxL + 11) + rm.locals ≤ R.locals) :
    vx_CSW R s args own index y bytes maxL ret hh ws rm mc ms n := by
  have ok : ∀ w ∈ va_wsS own index y ws, w.before args s = true := fun w h => ht w (hT w h).1
  have hG : GoodIn Ts ws := fun w h => hT w (by unfold va_wsS; exact List.mem_append_right _ h)
  have hc : Cond.codeWith y bytes maxL ret hh ∈ ws := by rw [hw]; exact List.mem_cons_self
  refine ⟨⟨hrc, hrs, hR.1, hR.2, pay_in ht hG, hc⟩, ht _ (hG _ hc).1, ok _ (by simp [va_wsS]), ⟨hd.1, hd.2.1⟩, fun sig h => ?_, ok _ (by simp [va_wsS]), ok _ (by simp [va_wsS])⟩
  have h2 := hd.2.2
  rw [h] at h2
  exact (Option.some.inj h2).symm
theorem vx_callSW (X : Stand p l e R s m args below meth c T locs cells slots) (hexec : p.tables.exec = Jvm.exec) {own : String} {index : Nat} {y : MethodName} {bytes : ByteArray} {maxL : Nat} {ret : Option FieldType} {hh : List (Nat × Nat × Nat × Nat)}
    (hown : s.vm.findClass own = some m.cls) (hlink : (Cond.methodLink own index y).before args s = true) (hstat : (Cond.static y).before args s = true) (hinit : (Cond.initialized y.cls).before args s = true)
    (hcode : (Cond.codeWith y bytes maxL ret hh).before args s = true) (hy : y.cls ≠ "java/lang/invoke/MethodHandle" ∧ y.cls ≠ "java/lang/invoke/VarHandle")
    {W9 : Nat} {Pre : Pt → Array Value → Prop} {Post : Pt → Array Value → Option Value → Pt → Prop} (hK : Back l R p e below s args y 3 W9 Pre Post)
    {g : JFrame} (hg : g.method = m) (hsize : g.locals.size = c.maxLocals) {argsL rest : List Value} (hlen : ∀ sig, parseMethodDescriptor y.desc = some sig → argsL.length = sig.parameters.length)
    (hstack : g.stack = argsL.reverse ++ rest) (hW : 2 * g.monitorRoom + (rest.map fun v => v.category).sum ≤ W9) (hdg : decode c.code g.pc = .ok (.invokestatic index, 3))
    (hpre : ∀ vm₁, s.WarmedH vm₁ → Pre ⟨T.setVm vm₁, locs, cells, slots⟩ argsL.toArray) :
    ∃ (v : Option Value) (vm₁ : Vm) (B : Pt), s.WarmedH vm₁ ∧ Stand p l e R s m args below meth c B.U B.locs B.cells B.slots ∧ Post ⟨T.setVm vm₁, locs, cells, slots⟩ argsL.toArray v B ∧
      ∀ target, Steps p.tables e below (B.U.setTop { g with pc := g.pc + 3, stack := v.toList ++ rest }) target → Steps p.tables e below (T.setTop g) target := by
  obtain ⟨mk, methM, cM, hnamed, hmethM, -, -, -, -, -, -, hsigM⟩ := Cond.codeWith_spec hcode
  have hstatic : methM.isStatic = true := Cond.static_spec hnamed hmethM hstat
  obtain ⟨kP, hkP, -⟩ := className_of_methodNamed hnamed
  have hinitP : kP.init = .initialized := Cond.initialized_spec (findClass_of_methodNamed hnamed) hkP hinit
  obtain ⟨vm₁, X₁, hstep₁⟩ := X.invokestatic hexec hown hlink hnamed hmethM hstatic hkP hinitP hy (g := g) hg (argsL := argsL) (rest := rest) (hlen _ hsigM) hstack hdg
  obtain ⟨v, B, X', hpost, hsteps⟩ := hK m meth c ⟨T.setVm vm₁, locs, cells, slots⟩ { g with stack := rest } (.invokestatic index) mk argsL.toArray X₁ hg hsize hdg hW (X₁.named hnamed) (hpre vm₁ X₁.warmed)
  exact ⟨v, vm₁, B, X₁.warmed, X', hpost, fun target h => hstep₁ _ fun acts => by rw [doInvoke_state]; exact hsteps.trans h⟩
theorem vx_runSW {y : MethodName} {bytes cc : ByteArray} {maxL nL mc ms n index : Nat} {ret : Option FieldType} {hh : List (Nat × Nat × Nat × Nat)} {ws : List Cond} {rm : Room} {Pc : Array Value → State → Prop} {Qc : Array Value → State → Outcome → State → Prop} {free : Addr → Prop} {Ts : List Cond} {own : String} {As rest : List Value} {g : JFrame}
    (S : CallFix p m c cc nL s args Ts own) (hM : Met l y ws rm Pc Qc mc ms free) (cw : vx_CSW R s args own index y bytes maxL ret hh ws rm mc ms n) (hp : PreS s H Pc As)
    (hg : g.method = m) (hn : As.length = n) (hsize : g.locals.size = nL) (hstack : g.stack = As.reverse ++ rest) (hW : 2 * g.monitorRoom + (rest.map fun v => v.category).sum ≤ 8) (hdg : decode cc g.pc = .ok (.invokestatic index, 3)) (hf : cells + mc ≤ R.cells ∧ slots + ms ≤ R.slots) :
    va_Run p l e R s m args below meth c H locs cells slots mc ms g rest (Qc As.toArray) (free) := by
  obtain ⟨⟨hrc, hrs, hfr, hlo, hws, hcw⟩, hcode, hini, hy, hlen, hl, hstt⟩ := cw
  have hK : Back l R p e below s args y 3 8 (PreOf R mc ms Pc) (PostOf Qc mc ms free) := va_backW (hh := hh) (bytes := bytes) (maxL := maxL) (ret := ret) hM hp.1 hrc hrs hfr hlo hws hcw (fun a' U hW => word_at hW (Or.inl (by first | rfl | simp [Cond.onTables, Cond.keeps, Cond.steady])) hini)
  obtain ⟨hx, hb, hml, ho, -⟩ := S
  intro T hT X
  obtain ⟨v, vm₁, ⟨U', l2, c2, s2⟩, hW₁, X', ⟨g', mk, t, L, e1, e2, hq, h1, hL, h2, h3⟩, st⟩ := vx_callSW X hx (hh := hh) (bytes := bytes) (maxL := maxL) (ret := ret) ho hl hstt hini hcode hy hK hg (hsize.trans hml.symm) (argsL := As) (rest := rest) (fun sig h => hn.trans (hlen sig h)) hstack hW (by rw [hb]; exact hdg)
    (fun vm₁ hW₁ => ⟨hf.1, hf.2, hp.2 (T.setVm vm₁) hT hW₁⟩)
  dsimp only [Pt.U, Pt.locs, Pt.cells, Pt.slots] at X' e1 e2 h1 h2 h3 st
  subst h1; subst h2; subst h3
  exact ⟨v, (T.setVm vm₁).calling g' mk As.toArray, t, U', L, hT, X', hL, e1, e2, hq, st⟩
/-- not caught here, past rows that name other classes: it goes on to the caller -/
theorem vx_outP {p : Program} {l : Launch} {e : Env} {R : Room} {s : State} {m : MethodId} {args : Array Value} {below : List Frame} {meth : Method} {c : Code} {H : Heap} {locs : List Loc} {cells slots : Nat} {free : Addr → Prop} {ls : Array Slot} {rest : List Value} {Qc : Array Value → State → Outcome → State → Prop} {XC : String → State → State → Prop}
    {pc : Nat} {own E : String} {ce : Cell} {q : Addr} {mc ms : Nat} (hown : s.vm.findClass own = some m.cls) (hlocks : meth.locks = false)
    (hpass : ∀ z ∈ c.exceptionTable.toList, covers z pc = false ∨ (z.catchType ≠ 0 ∧ ∃ nm : String, (Cond.classLink own z.catchType nm).before args s = true ∧ va_Nc E nm s)) (hcell : H[q]? = some ce) (hv : ce.vm = .none) (hcl : s.vm.findClass E = some ce.cls)
    (hx : ∀ t : State, t.heap = H → s.vm.Alike t.vm → XC E s t) (hf : ∀ z ∈ locs, free z.base) (hc : cells ≤ mc) (hs : slots ≤ ms) :
    vx_W p l e R s m args below meth c H locs cells slots (vx_MQ below Qc XC args s mc ms free) (F0 m pc ls rest) q := by
  intro T hT X
  have hpl : e.platform.magicAccessors = ({} : Platform).magicAccessors := by rw [X.admits.platform]
  obtain ⟨vm', hW', X', st⟩ := X.outThrough hlocks q (g := F0 m pc ls rest) rfl rfl rfl (cell := ce) (by rw [hT]; exact hcell) (by rw [hv]; rfl)
    (by obtain ⟨k9, h9, -⟩ := Vm.findClass_spec hcl; exact ⟨k9, h9⟩) (fun z hz => by
      rcases hpass z hz with h | ⟨hz0, nm, hl1, hn1⟩
      · exact Or.inl h
      · obtain ⟨c6, hc6, hcl6⟩ := Cond.classLink_spec hown hl1 e.platform hpl
        obtain ⟨a8, b8, h1, h2, h3⟩ := hn1
        cases Option.some.inj (h1.symm.trans hcl)
        cases Option.some.inj (h2.symm.trans hc6)
        exact Or.inr ⟨hz0, _, hcl6, h3⟩)
  obtain ⟨g₀, hfr⟩ := X'.frames_eq
  have hcell9 : ((T.setVm vm').setFrames (.throwing q :: below)).heap[q]? = some ce := by
    show T.heap[q]? = some ce
    rw [hT]; exact hcell
  have hend : Ended ((T.setVm vm').setFrames (.throwing q :: below)) below (.threw q) := State.frames_setFrames _ (State.cur_lt_of_frames hfr)
  refine ⟨(T.setVm vm').setFrames (.throwing q :: below), ?_, .threw q, X'.here.running, hend, Or.inr ⟨q, rfl, E, ce, locs, hx _ hT (X'.ends _).1.alike, hcell9, hv, hcl, (X'.ends _).1, (X'.ends _).2.mono hc hs, hf⟩⟩
  rw [X.pushThrowing_eq]
  exact st
/-- a thing of a world lies in the heap -/
theorem vx_lt {D : va_G} {cl : List vw_C} {ws : va_W} {H1 : Heap} (h : va_P D cl ws H1) {k : Nat} {q : Nat × va_E} (hk : ws[k]? = some q) : q.1 < H1.size := (h k q hk).lt
end VXS
/-! ===== END ===== -/
/-! ===== BEGIN methods with a table of their own: called by a name, returning or throwing ===== -/
section VXH
/-! vx_backW, vx_callVX, vx_callSX, vx_callVW, vx_runVW, vx_runVX, vx_runSX, vx_ofWH follow the same proofs as their sisters above (Free/Laws.lean, Shelf42/LK1.lean); vx_outP calls Shelf42/NT130.lean (outThrough). -/
section
variable {l : Launch} {R : Room} {p : Program} {e : Env} {below : List Frame} {s : State} {sargs : Array Value} {y : MethodName} {len W9 : Nat}
theorem vx_backW {ws : List Cond} {rm : Room} {Pc : Array Value → State → Prop} {Qc : Array Value → State → Outcome → State → Prop} {XC : String → State → State → Prop} {mc ms : Nat} {free : Addr → Prop} {bytes : ByteArray} {maxL : Nat} {ret : Option FieldType} {hh : List (Nat × Nat × Nat × Nat)}
    (hM : vx_Met l y ws rm Pc Qc XC mc ms free) (hblind : FrameBlind Pc) (hrc : rm.cells = mc) (hrs : rm.slots = ms)
    (hframes : rm.frames + 1 ≤ R.frames) (hlocals : W9 + (maxL + 11) + rm.locals ≤ R.locals)
    (hws : ∀ w ∈ ws, ∀ a' U, s.WarmedH U.vm → w.before a' U = true) (hcode : Cond.codeWith y bytes maxL ret hh ∈ ws) (hinit : ∀ a' U, s.WarmedH U.vm → (Cond.initialized y.cls).before a' U = true) :
    vx_Back l R p e below s sargs y len W9 (PreOf R mc ms Pc) (PostOf Qc mc ms free) (vx_Post XC mc ms free) := by
  intro m meth c A g ig mk a X hg hsize hdg hW hn hp
  have h1 : (headSpec ws rm).pre.before a A.U = true := atoms_intro fun w hw => hws w hw _ _ X.warmed
  have h2 : (Cond.codeWith y bytes maxL ret hh).before a A.U = true := hws _ hcode _ _ X.warmed
  have h3 : (Cond.initialized y.cls).before a A.U = true := hinit _ _ X.warmed
  have h4 : A.cells + (headSpec ws rm).room.cells ≤ R.cells := by rw [show (headSpec ws rm).room.cells = mc from hrc]; exact hp.1
  have h5 : A.slots + (headSpec ws rm).room.slots ≤ R.slots := by rw [show (headSpec ws rm).room.slots = ms from hrs]; exact hp.2.1
  have hPc : Pc a (A.U.calling g mk a) := hblind _ _ _ _ hp.2.2
  obtain ⟨U, Ls, c0, s0⟩ := A
  dsimp only [Pt.U, Pt.locs, Pt.cells, Pt.slots] at h1 h2 h3 h4 h5 X hn hPc ⊢
  obtain ⟨m9, methY, cY, hn9, hmY, hcY, -, hlY, -⟩ := Cond.codeWith_spec h2
  cases Option.some.inj (hn9.symm.trans hn)
  obtain ⟨kY, hkY, -⟩ := className_of_methodNamed hn
  have hinitY : kY.init = .initialized := Cond.initialized_spec (findClass_of_methodNamed hn) hkY h3
  have h : At U g.method c below := by rw [hg]; exact X.here
  have hlocals9 : W9 + (maxL + 11) + (headSpec ws rm).room.locals ≤ R.locals := hlocals
  have happ : (headSpec ws rm).appliesLoose y e.platform (U.calling g mk a) = true :=
    Spec.appliesLoose_calling (g := g) h hdg hn hkY hinitY
      (X.room_calling (g := g) (R' := (headSpec ws rm).room) hsize hmY hcY hframes (by rw [hlY]; omega) h4 h5) h1
  obtain ⟨mid, hmid⟩ := h.above
  have hfr : (U.setTop g).frames = (.java g :: mid) ++ below := by rw [State.frames_setTop' g h.top, hmid]; rfl
  obtain ⟨o, s₂, hsteps, -, hend, hq⟩ := Steps.callFree hM p X.admits X.cas X.clock (acts := []) hfr happ hPc trivial
  have hq' : vx_Q Qc XC mc ms free a (U.calling g mk a) o s₂ := hq
  rw [State.frames_setTop' g h.top] at hend
  obtain ⟨g₀, hg0⟩ := Option.isSome_iff_exists.mp h.top
  obtain ⟨r, hr⟩ := State.topJava?_eq_some.mp hg0
  have hr' : (({ U with heap := s₂.heap, slotsUsed := s₂.slotsUsed } : State).setVm s₂.vm).frames = .java g₀ :: r := hr
  rcases hq' with ⟨hqc, L, hfe, hL⟩ | ⟨q, rfl, E, ce, L, hx, hce, hcv, hcl, hW₂, hsm, hL⟩
  · obtain ⟨⟨v, rfl⟩, hW₂, e2, q2, q3, q4, q5, q6⟩ := id hfe
    have e3 : s₂ = ({ (U.calling g mk a).setFrames s₂.frames with heap := s₂.heap, slotsUsed := s₂.slotsUsed } : State).setVm s₂.vm := by
      have : s₂ = ({ s₂ with vm := (U.calling g mk a).vm } : State).setVm s₂.vm := rfl
      rw [e2] at this
      exact this
    obtain ⟨c₂, i₂, len₂, hc₂, hd₂, hf₂⟩ := hend
    have hW' : U.WarmedH s₂.vm := hW₂
    have hcc : c₂ = c := by
      have h1 : s₂.code? g.method = U.code? g.method := by
        rw [State.code?_eq, State.code?_eq, hW'.alike.method?]
      exact Option.some.inj (hc₂.symm.trans (h1.trans h.code))
    subst hcc
    have hlen : len₂ = len := by rw [hdg] at hd₂; cases hd₂; rfl
    subst hlen
    have hs₂ : s₂ = (({ U with heap := s₂.heap, slotsUsed := s₂.slotsUsed } : State).setVm s₂.vm).setTop { g with pc := g.pc + len₂, stack := v.toList ++ g.stack } := by
      refine e3.trans ?_
      rw [hf₂, State.calling_eq h.top, State.setFrames_setFrames, State.setTop_of_frames _ hr', hr]
      rfl
    have hsame : U.sameButNew ({ U with heap := s₂.heap, slotsUsed := s₂.slotsUsed } : State) L mc ms := by
      refine ⟨?_, q2, q3, q4, q5, q6⟩
      obtain ⟨t, ht, -⟩ := State.frames_cons hr
      show ({ U with heap := s₂.heap, slotsUsed := s₂.slotsUsed } : State) = { U.setFrames U.frames with heap := s₂.heap, slotsUsed := s₂.slotsUsed }
      rw [State.setFrames_self ht]
    subst hg
    refine Or.inl ⟨v, ⟨(({ U with heap := s₂.heap, slotsUsed := s₂.slotsUsed } : State).setVm s₂.vm), Ls ++ L, c0 + mc, s0 + ms⟩,
      ⟨X.admits, X.cas, X.clock, X.frames, X.room, X.hears, X.method, X.code, (X.here.setHeapUsed s₂.heap s₂.slotsUsed).setVm hW'.alike, X.tail, State.WarmedH.trans X.warmed hW', X.limits, X.bytes, X.same.trans (hsame.setVm s.vm)⟩,
      ⟨g, mk, s₂, L, rfl, rfl, hqc, rfl, hL, rfl, rfl⟩, ?_⟩
    show Steps p.tables e below _ ((({ U with heap := s₂.heap, slotsUsed := s₂.slotsUsed } : State).setVm s₂.vm).setTop { g with pc := g.pc + len₂, stack := v.toList ++ g.stack })
    rw [← hs₂]
    exact hsteps
  · obtain ⟨e2, q2, q3, q4, q5, q6⟩ := id hsm
    have e3 : s₂ = ({ (U.calling g mk a).setFrames s₂.frames with heap := s₂.heap, slotsUsed := s₂.slotsUsed } : State).setVm s₂.vm := by
      have : s₂ = ({ s₂ with vm := (U.calling g mk a).vm } : State).setVm s₂.vm := rfl
      rw [e2] at this
      exact this
    have hf₂ : s₂.frames = .throwing q :: .java g :: U.frames.tail := hend
    have hW' : U.WarmedH s₂.vm := hW₂
    have hs₂ : s₂ = ((({ U with heap := s₂.heap, slotsUsed := s₂.slotsUsed } : State).setVm s₂.vm).setTop g).pushFrame (.throwing q) := by
      refine e3.trans ?_
      rw [hf₂, State.calling_eq h.top, State.setFrames_setFrames, State.pushFrame, State.frames_setTop _ hr', State.setTop_of_frames _ hr', State.setFrames_setFrames, hr]
      rfl
    have hsame : U.sameButNew ({ U with heap := s₂.heap, slotsUsed := s₂.slotsUsed } : State) L mc ms := by
      refine ⟨?_, q2, q3, q4, q5, q6⟩
      obtain ⟨t, ht, -⟩ := State.frames_cons hr
      show ({ U with heap := s₂.heap, slotsUsed := s₂.slotsUsed } : State) = { U.setFrames U.frames with heap := s₂.heap, slotsUsed := s₂.slotsUsed }
      rw [State.setFrames_self ht]
    subst hg
    refine Or.inr ⟨q, ⟨(({ U with heap := s₂.heap, slotsUsed := s₂.slotsUsed } : State).setVm s₂.vm), Ls ++ L, c0 + mc, s0 + ms⟩,
      ⟨X.admits, X.cas, X.clock, X.frames, X.room, X.hears, X.method, X.code, (X.here.setHeapUsed s₂.heap s₂.slotsUsed).setVm hW'.alike, X.tail, State.WarmedH.trans X.warmed hW', X.limits, X.bytes, X.same.trans (hsame.setVm s.vm)⟩,
      ⟨g, mk, s₂, L, E, ce, rfl, rfl, hx, hce, hcv, hcl, rfl, hL, rfl, rfl⟩, ?_⟩
    show Steps p.tables e below _ (((({ U with heap := s₂.heap, slotsUsed := s₂.slotsUsed } : State).setVm s₂.vm).setTop g).pushFrame (.throwing q))
    rw [← hs₂]
    exact hsteps
end
variable {p : Program} {l : Launch} {e : Env} {R : Room} {s : State} {m : MethodId} {args : Array Value} {below : List Frame} {meth : Method} {c : Code} {T : State} {H : Heap} {locs : List Loc} {cells slots : Nat}
theorem vx_callVX (X : Stand p l e R s m args below meth c T locs cells slots) (hexec : p.tables.exec = Jvm.exec) {own C : String} {index : Nat} {y : MethodName} {bytes : ByteArray} {maxL : Nat} {ret : Option FieldType} {hh : List (Nat × Nat × Nat × Nat)}
    (hown : s.vm.findClass own = some m.cls) (hlink : (Cond.methodLink own index y).before args s = true) (hinst : (Cond.instanceMethod y).before args s = true) (hsel : (Cond.selects C y y).before args s = true)
    (hcode : (Cond.codeWith y bytes maxL ret hh).before args s = true) (hy : y.cls ≠ "java/lang/invoke/MethodHandle" ∧ y.cls ≠ "java/lang/invoke/VarHandle")
    {W9 : Nat} {Pre : Pt → Array Value → Prop} {Post : Pt → Array Value → Option Value → Pt → Prop} {PostX : Pt → Array Value → Addr → Pt → Prop} (hK : vx_Back l R p e below s args y 3 W9 Pre Post PostX)
    {b : Addr} {cellB : Cell} (hcell : T.heap[b]? = some cellB) (hobj : cellB.vm.isStatics = false) (hcls : s.vm.findClass C = some cellB.cls)
    {g : JFrame} (hg : g.method = m) (hsize : g.locals.size = c.maxLocals) {argsL rest : List Value} (hlen : ∀ sig, parseMethodDescriptor y.desc = some sig → argsL.length = sig.parameters.length)
    (hstack : g.stack = argsL.reverse ++ .ref b :: rest) (hW : 2 * g.monitorRoom + (rest.map fun v => v.category).sum ≤ W9) (hdg : decode c.code g.pc = .ok (.invokevirtual index, 3))
    (hpre : ∀ vm₁, s.WarmedH vm₁ → Pre ⟨T.setVm vm₁, locs, cells, slots⟩ (Value.ref b :: argsL).toArray) :
    (∃ (v : Option Value) (vm₁ : Vm) (B : Pt), s.WarmedH vm₁ ∧ Stand p l e R s m args below meth c B.U B.locs B.cells B.slots ∧ Post ⟨T.setVm vm₁, locs, cells, slots⟩ (Value.ref b :: argsL).toArray v B ∧
      ∀ target, Steps p.tables e below (B.U.setTop { g with pc := g.pc + 3, stack := v.toList ++ rest }) target → Steps p.tables e below (T.setTop g) target) ∨
    (∃ (q : Addr) (vm₁ : Vm) (B : Pt), s.WarmedH vm₁ ∧ Stand p l e R s m args below meth c B.U B.locs B.cells B.slots ∧ PostX ⟨T.setVm vm₁, locs, cells, slots⟩ (Value.ref b :: argsL).toArray q B ∧
      Steps p.tables e below (T.setTop g) ((B.U.setTop { g with stack := rest }).pushFrame (.throwing q))) := by
  obtain ⟨mk, methM, hnamed, hmethM, hstM, habM⟩ := Cond.instanceMethod_spec hinst
  obtain ⟨m8, methM', cM, hn8, hmethM', -, -, -, -, -, -, hsigM⟩ := Cond.codeWith_spec hcode
  cases Option.some.inj (hn8.symm.trans hnamed)
  cases hmethM.symm.trans hmethM'
  obtain ⟨c2, r2, m2, q1, q2, q3, q4, kP, hkP, hkPi⟩ := Cond.selects_spec hsel
  cases hcls.symm.trans q1
  cases (State.methodFound?_of_named hnamed hy).symm.trans q2
  cases hnamed.symm.trans q3
  have hselP : selectMethod e.platform s.vm cellB.cls mk = .method mk := by rw [Launch.admits_selectMethod X.admits]; exact q4
  obtain ⟨vm₁, X₁, hstep₁⟩ := X.invokevirtual hexec hown hlink hnamed hmethM hstM hkP hkPi hy (a := b) (cell := cellB) hcell
    (fun z h => by rw [h] at hobj; cases hobj) hselP hmethM habM hkP hkPi (g := g) hg (argsL := argsL) (rest := rest) (hlen _ hsigM) hstack hdg
  rcases hK m meth c ⟨T.setVm vm₁, locs, cells, slots⟩ { g with stack := rest } (.invokevirtual index) mk (Value.ref b :: argsL).toArray X₁ hg hsize hdg hW (X₁.named hnamed) (hpre vm₁ X₁.warmed) with ⟨v, B, X', hpost, hsteps⟩ | ⟨q, B, X', hpost, hsteps⟩
  · exact Or.inl ⟨v, vm₁, B, X₁.warmed, X', hpost, fun target h => hstep₁ _ fun acts => by rw [doInvoke_state]; exact hsteps.trans h⟩
  · exact Or.inr ⟨q, vm₁, B, X₁.warmed, X', hpost, hstep₁ _ fun acts => by rw [doInvoke_state]; exact hsteps⟩
theorem vx_callSX (X : Stand p l e R s m args below meth c T locs cells slots) (hexec : p.tables.exec = Jvm.exec) {own : String} {index : Nat} {y : MethodName} {bytes : ByteArray} {maxL : Nat} {ret : Option FieldType} {hh : List (Nat × Nat × Nat × Nat)}
    (hown : s.vm.findClass own = some m.cls) (hlink : (Cond.methodLink own index y).before args s = true) (hstat : (Cond.static y).before args s = true) (hinit : (Cond.initialized y.cls).before args s = true)
    (hcode : (Cond.codeWith y bytes maxL ret hh).before args s = true) (hy : y.cls ≠ "java/lang/invoke/MethodHandle" ∧ y.cls ≠ "java/lang/invoke/VarHandle")
    {W9 : Nat} {Pre : Pt → Array Value → Prop} {Post : Pt → Array Value → Option Value → Pt → Prop} {PostX : Pt → Array Value → Addr → Pt → Prop} (hK : vx_Back l R p e below s args y 3 W9 Pre Post PostX)
    {g : JFrame} (hg : g.method = m) (hsize : g.locals.size = c.maxLocals) {argsL rest : List Value} (hlen : ∀ sig, parseMethodDescriptor y.desc = some sig → argsL.length = sig.parameters.length)
    (hstack : g.stack = argsL.reverse ++ rest) (hW : 2 * g.monitorRoom + (rest.map fun v => v.category).sum ≤ W9) (hdg : decode c.code g.pc = .ok (.invokestatic index, 3))
    (hpre : ∀ vm₁, s.WarmedH vm₁ → Pre ⟨T.setVm vm₁, locs, cells, slots⟩ argsL.toArray) :
    (∃ (v : Option Value) (vm₁ : Vm) (B : Pt), s.WarmedH vm₁ ∧ Stand p l e R s m args below meth c B.U B.locs B.cells B.slots ∧ Post ⟨T.setVm vm₁, locs, cells, slots⟩ argsL.toArray v B ∧
      ∀ target, Steps p.tables e below (B.U.setTop { g with pc := g.pc + 3, stack := v.toList ++ rest }) target → Steps p.tables e below (T.setTop g) target) ∨
    (∃ (q : Addr) (vm₁ : Vm) (B : Pt), s.WarmedH vm₁ ∧ Stand p l e R s m args below meth c B.U B.locs B.cells B.slots ∧ PostX ⟨T.setVm vm₁, locs, cells, slots⟩ argsL.toArray q B ∧
      Steps p.tables e below (T.setTop g) ((B.U.setTop { g with stack := rest }).pushFrame (.throwing q))) := by
  obtain ⟨mk, methM, cM, hnamed, hmethM, -, -, -, -, -, -, hsigM⟩ := Cond.codeWith_spec hcode
  have hstatic : methM.isStatic = true := Cond.static_spec hnamed hmethM hstat
  obtain ⟨kP, hkP, -⟩ := className_of_methodNamed hnamed
  have hinitP : kP.init = .initialized := Cond.initialized_spec (findClass_of_methodNamed hnamed) hkP hinit
  obtain ⟨vm₁, X₁, hstep₁⟩ := X.invokestatic hexec hown hlink hnamed hmethM hstatic hkP hinitP hy (g := g) hg (argsL := argsL) (rest := rest) (hlen _ hsigM) hstack hdg
  rcases hK m meth c ⟨T.setVm vm₁, locs, cells, slots⟩ { g with stack := rest } (.invokestatic index) mk argsL.toArray X₁ hg hsize hdg hW (X₁.named hnamed) (hpre vm₁ X₁.warmed) with ⟨v, B, X', hpost, hsteps⟩ | ⟨q, B, X', hpost, hsteps⟩
  · exact Or.inl ⟨v, vm₁, B, X₁.warmed, X', hpost, fun target h => hstep₁ _ fun acts => by rw [doInvoke_state]; exact hsteps.trans h⟩
  · exact Or.inr ⟨q, vm₁, B, X₁.warmed, X', hpost, hstep₁ _ fun acts => by rw [doInvoke_state]; exact hsteps⟩
theorem vx_callVW (X : Stand p l e R s m args below meth c T locs cells slots) (hexec : p.tables.exec = Jvm.exec) {own C : String} {index : Nat} {y : MethodName} {bytes : ByteArray} {maxL : Nat} {ret : Option FieldType} {hh : List (Nat × Nat × Nat × Nat)}
    (hown : s.vm.findClass own = some m.cls) (hlink : (Cond.methodLink own index y).before args s = true) (hinst : (Cond.instanceMethod y).before args s = true) (hsel : (Cond.selects C y y).before args s = true)
    (hcode : (Cond.codeWith y bytes maxL ret hh).before args s = true) (hy : y.cls ≠ "java/lang/invoke/MethodHandle" ∧ y.cls ≠ "java/lang/invoke/VarHandle")
    {W9 : Nat} {Pre : Pt → Array Value → Prop} {Post : Pt → Array Value → Option Value → Pt → Prop} (hK : Back l R p e below s args y 3 W9 Pre Post)
    {b : Addr} {cellB : Cell} (hcell : T.heap[b]? = some cellB) (hobj : cellB.vm.isStatics = false) (hcls : s.vm.findClass C = some cellB.cls)
    {g : JFrame} (hg : g.method = m) (hsize : g.locals.size = c.maxLocals) {argsL rest : List Value} (hlen : ∀ sig, parseMethodDescriptor y.desc = some sig → argsL.length = sig.parameters.length)
    (hstack : g.stack = argsL.reverse ++ .ref b :: rest) (hW : 2 * g.monitorRoom + (rest.map fun v => v.category).sum ≤ W9) (hdg : decode c.code g.pc = .ok (.invokevirtual index, 3))
    (hpre : ∀ vm₁, s.WarmedH vm₁ → Pre ⟨T.setVm vm₁, locs, cells, slots⟩ (Value.ref b :: argsL).toArray) :
    ∃ (v : Option Value) (vm₁ : Vm) (B : Pt), s.WarmedH vm₁ ∧ Stand p l e R s m args below meth c B.U B.locs B.cells B.slots ∧ Post ⟨T.setVm vm₁, locs, cells, slots⟩ (Value.ref b :: argsL).toArray v B ∧
      ∀ target, Steps p.tables e below (B.U.setTop { g with pc := g.pc + 3, stack := v.toList ++ rest }) target → Steps p.tables e below (T.setTop g) target := by
  obtain ⟨mk, methM, hnamed, hmethM, hstM, habM⟩ := Cond.instanceMethod_spec hinst
  obtain ⟨m8, methM', cM, hn8, hmethM', -, -, -, -, -, -, hsigM⟩ := Cond.codeWith_spec hcode
  cases Option.some.inj (hn8.symm.trans hnamed)
  cases hmethM.symm.trans hmethM'
  obtain ⟨c2, r2, m2, q1, q2, q3, q4, kP, hkP, hkPi⟩ := Cond.selects_spec hsel
  cases hcls.symm.trans q1
  cases (State.methodFound?_of_named hnamed hy).symm.trans q2
  cases hnamed.symm.trans q3
  have hselP : selectMethod e.platform s.vm cellB.cls mk = .method mk := by rw [Launch.admits_selectMethod X.admits]; exact q4
  obtain ⟨vm₁, X₁, hstep₁⟩ := X.invokevirtual hexec hown hlink hnamed hmethM hstM hkP hkPi hy (a := b) (cell := cellB) hcell
    (fun z h => by rw [h] at hobj; cases hobj) hselP hmethM habM hkP hkPi (g := g) hg (argsL := argsL) (rest := rest) (hlen _ hsigM) hstack hdg
  obtain ⟨v, B, X', hpost, hsteps⟩ := hK m meth c ⟨T.setVm vm₁, locs, cells, slots⟩ { g with stack := rest } (.invokevirtual index) mk (Value.ref b :: argsL).toArray X₁ hg hsize hdg hW (X₁.named hnamed) (hpre vm₁ X₁.warmed)
  exact ⟨v, vm₁, B, X₁.warmed, X', hpost, fun target h => hstep₁ _ fun acts => by rw [doInvoke_state]; exact hsteps.trans h⟩
abbrev vx_CVW (R : Room) (s : State) (args : Array Value) (own C : String) (index : Nat) (y : MethodName) (bytes : ByteArray) (maxL : Nat) (ret : Option FieldType) (hh : List (Nat × Nat × Nat × Nat)) (ws : List Cond) (rm : Room) (mc ms n : Nat) : Prop :=
  (rm.cells = mc ∧ rm.slots = ms ∧ rm.frames + 1 ≤ R.frames ∧ 8 + (maxL + 11) + rm.locals ≤ R.locals ∧ (∀ w ∈ ws, ∀ (a' : Array Value) (U : State), s.WarmedH U.vm → w.before a' U = true) ∧ Cond.codeWith y bytes maxL ret hh ∈ ws) ∧
  (Cond.codeWith y bytes maxL ret hh).before args s = true ∧ (Cond.initialized y.cls).before args s = true ∧ (y.cls ≠ "java/lang/invoke/MethodHandle" ∧ y.cls ≠ "java/lang/invoke/VarHandle") ∧
  (∀ sig, parseMethodDescriptor y.desc = some sig → n = sig.parameters.length) ∧ (Cond.methodLink own index y).before args s = true ∧ (Cond.instanceMethod y).before args s = true ∧ (Cond.selects C y y).before args s = true
theorem vx_cwVW {own C : String} {index maxL mc ms : Nat} {y : MethodName} {bytes : ByteArray} {ret : Option FieldType} {hh : List (Nat × Nat × Nat × Nat)} {Ts ws ws' : List Cond} {rm : Room} (n : Nat) (ht : ∀ w ∈ Ts, w.before args s = true) (hT : GoodIn Ts (wsV own index C y ws)) (hw : ws = Cond.codeWith y bytes maxL ret hh :: ws') (hrc : rm.cells = mc) (hrs : rm.slots = ms)
    (hd : y.cls = C ∧ y.cls ≠ "java/lang/invoke/MethodHandle" ∧ y.cls ≠ "java/lang/invoke/VarHandle" ∧ (parseMethodDescriptor y.desc).map (fun d => d.parameters.length) = some n) (hR : rm.frames + 1 ≤ R.frames ∧ 8 + (maxL + 11) + rm.locals ≤ R.locals) :
    vx_CVW R s args own C index y bytes maxL ret hh ws rm mc ms n := by
  obtain ⟨hC, hd⟩ := hd
  subst hC
  have ok : ∀ w ∈ wsV own index y.cls y ws, w.before args s = true := fun w h => ht w (hT w h).1
  have hG : GoodIn Ts ws := fun w h => hT w (by unfold wsV; exact List.mem_append_right _ h)
  have hc : Cond.codeWith y bytes maxL ret hh ∈ ws := by rw [hw]; exact List.mem_cons_self
  refine ⟨⟨hrc, hrs, hR.1, hR.2, pay_in ht hG, hc⟩, ht _ (hG _ hc).1, ok _ (by simp [wsV]), ⟨hd.1, hd.2.1⟩, fun sig h => ?_, ok _ (by simp [wsV]), ok _ (by simp [wsV]), ok _ (by simp [wsV])⟩
  have h2 := hd.2.2
  rw [h] at h2
  exact (Option.some.inj h2).symm
theorem vx_runVW {y : MethodName} {bytes cc : ByteArray} {maxL nL mc ms n index : Nat} {ret : Option FieldType} {hh : List (Nat × Nat × Nat × Nat)} {ws : List Cond} {rm : Room} {Pc : Array Value → State → Prop} {Qc : Array Value → State → Outcome → State → Prop} {free : Addr → Prop} {Ts : List Cond} {own C : String} {b : Addr} {As rest : List Value} {g : JFrame}
    (S : CallFix p m c cc nL s args Ts own) (hM : Met l y ws rm Pc Qc mc ms free) (cw : vx_CVW R s args own C index y bytes maxL ret hh ws rm mc ms n) (hp : PreV s H C b Pc As)
    (hg : g.method = m) (hn : As.length = n) (hsize : g.locals.size = nL) (hstack : g.stack = As.reverse ++ .ref b :: rest) (hW : 2 * g.monitorRoom + (rest.map fun v => v.category).sum ≤ 8) (hdg : decode cc g.pc = .ok (.invokevirtual index, 3)) (hf : cells + mc ≤ R.cells ∧ slots + ms ≤ R.slots) :
    va_Run p l e R s m args below meth c H locs cells slots mc ms g rest (Qc (Value.ref b :: As).toArray) free := by
  obtain ⟨⟨hrc, hrs, hfr, hlo, hws, hcw⟩, hcode, hini, hy, hlen, hl, hin, hse⟩ := cw
  have hK : Back l R p e below s args y 3 8 (PreOf R mc ms Pc) (PostOf Qc mc ms free) := va_backW (hh := hh) (bytes := bytes) (maxL := maxL) (ret := ret) hM hp.1 hrc hrs hfr hlo hws hcw (fun a' U hW => word_at hW (Or.inl (by first | rfl | simp [Cond.onTables, Cond.keeps, Cond.steady])) hini)
  obtain ⟨hx, hb, hml, ho, -⟩ := S
  obtain ⟨-, ⟨cellB, hcB, hoB, hclB⟩, hPc⟩ := hp
  intro T hT X
  obtain ⟨v, vm₁, ⟨U', l2, c2, s2⟩, hW₁, X', ⟨g', mk, t, L, e1, e2, hq, h1, hL, h2, h3⟩, st⟩ := vx_callVW X hx (C := C) (hh := hh) (bytes := bytes) (maxL := maxL) (ret := ret) ho hl hin hse hcode hy hK (by rw [hT]; exact hcB) hoB hclB hg (hsize.trans hml.symm) (argsL := As) (rest := rest) (fun sig h => hn.trans (hlen sig h)) hstack hW (by rw [hb]; exact hdg)
    (fun vm₁ hW₁ => ⟨hf.1, hf.2, hPc (T.setVm vm₁) hT hW₁⟩)
  dsimp only [Pt.U, Pt.locs, Pt.cells, Pt.slots] at X' e1 e2 h1 h2 h3 st
  subst h1; subst h2; subst h3
  exact ⟨v, (T.setVm vm₁).calling g' mk (Value.ref b :: As).toArray, t, U', L, hT, X', hL, e1, e2, hq, st⟩
section
variable {y : MethodName} {bytes cc : ByteArray} {maxL nL mc ms n index : Nat} {ret : Option FieldType} {ws : List Cond} {rm : Room} {Pc : Array Value → State → Prop} {Qc : Array Value → State → Outcome → State → Prop} {XC : String → State → State → Prop} {free : Addr → Prop} {Ts : List Cond} {own C : String} {b : Addr} {As rest : List Value} {g : JFrame}
theorem vx_runVX {hh : List (Nat × Nat × Nat × Nat)} (S : CallFix p m c cc nL s args Ts own) (hM : vx_Met l y ws rm Pc Qc XC mc ms free) (cw : vx_CVW R s args own C index y bytes maxL ret hh ws rm mc ms n) (hp : PreV s H C b Pc As)
    (hg : g.method = m) (hn : As.length = n) (hsize : g.locals.size = nL) (hstack : g.stack = As.reverse ++ .ref b :: rest) (hW : 2 * g.monitorRoom + (rest.map fun v => v.category).sum ≤ 8) (hdg : decode cc g.pc = .ok (.invokevirtual index, 3)) (hf : cells + mc ≤ R.cells ∧ slots + ms ≤ R.slots) :
    vx_Run p l e R s m args below meth c H locs cells slots mc ms g rest (Qc (Value.ref b :: As).toArray) XC free := by
  obtain ⟨⟨hrc, hrs, hfr, hlo, hws, hcw⟩, hcode, hini, hy, hlen, hl, hin, hse⟩ := cw
  have hK : vx_Back l R p e below s args y 3 8 (PreOf R mc ms Pc) (PostOf Qc mc ms free) (vx_Post XC mc ms free) := vx_backW (hh := hh) (bytes := bytes) (maxL := maxL) (ret := ret) hM hp.1 hrc hrs hfr hlo hws hcw (fun a' U hW => word_at hW (Or.inl (by first | rfl | simp [Cond.onTables, Cond.keeps, Cond.steady])) hini)
  obtain ⟨hx, hb, hml, ho, -⟩ := S
  obtain ⟨-, ⟨cellB, hcB, hoB, hclB⟩, hPc⟩ := hp
  intro T hT X
  rcases vx_callVX X hx (C := C) (hh := hh) (bytes := bytes) (maxL := maxL) (ret := ret) ho hl hin hse hcode hy hK (by rw [hT]; exact hcB) hoB hclB hg (hsize.trans hml.symm) (argsL := As) (rest := rest) (fun sig h => hn.trans (hlen sig h)) hstack hW (by rw [hb]; exact hdg)
    (fun vm₁ hW₁ => ⟨hf.1, hf.2, hPc (T.setVm vm₁) hT hW₁⟩) with ⟨v, vm₁, ⟨U', l2, c2, s2⟩, hW₁, X', ⟨g', mk, t, L, e1, e2, hq, h1, hL, h2, h3⟩, st⟩ | ⟨q, vm₁, ⟨U', l2, c2, s2⟩, hW₁, X', ⟨g', mk, t, L, E, ce, e1, e2, hq, hce, hcv, hcl, h1, hL, h2, h3⟩, st⟩
  · dsimp only [Pt.U, Pt.locs, Pt.cells, Pt.slots] at X' e1 e2 h1 h2 h3 st
    subst h1; subst h2; subst h3
    exact Or.inl ⟨v, (T.setVm vm₁).calling g' mk (Value.ref b :: As).toArray, t, U', L, hT, X', hL, e1, e2, hq, st⟩
  · dsimp only [Pt.U, Pt.locs, Pt.cells, Pt.slots] at X' e1 e2 h1 h2 h3 st hcl
    subst h1; subst h2; subst h3
    exact Or.inr ⟨q, (T.setVm vm₁).calling g' mk (Value.ref b :: As).toArray, t, U', L, E, ce, hT, X', hL, e1, e2, hq, hce, hcv, vx_cls hW₁ hcl, st⟩
theorem vx_runSX {hh : List (Nat × Nat × Nat × Nat)} (S : CallFix p m c cc nL s args Ts own) (hM : vx_Met l y ws rm Pc Qc XC mc ms free) (cw : vx_CSW R s args own index y bytes maxL ret hh ws rm mc ms n) (hp : PreS s H Pc As)
    (hg : g.method = m) (hn : As.length = n) (hsize : g.locals.size = nL) (hstack : g.stack = As.reverse ++ rest) (hW : 2 * g.monitorRoom + (rest.map fun v => v.category).sum ≤ 8) (hdg : decode cc g.pc = .ok (.invokestatic index, 3)) (hf : cells + mc ≤ R.cells ∧ slots + ms ≤ R.slots) :
    vx_Run p l e R s m args below meth c H locs cells slots mc ms g rest (Qc As.toArray) XC free := by
  obtain ⟨⟨hrc, hrs, hfr, hlo, hws, hcw⟩, hcode, hini, hy, hlen, hl, hstt⟩ := cw
  have hK : vx_Back l R p e below s args y 3 8 (PreOf R mc ms Pc) (PostOf Qc mc ms free) (vx_Post XC mc ms free) := vx_backW (hh := hh) (bytes := bytes) (maxL := maxL) (ret := ret) hM hp.1 hrc hrs hfr hlo hws hcw (fun a' U hW => word_at hW (Or.inl (by first | rfl | simp [Cond.onTables, Cond.keeps, Cond.steady])) hini)
  obtain ⟨hx, hb, hml, ho, -⟩ := S
  intro T hT X
  rcases vx_callSX X hx (hh := hh) (bytes := bytes) (maxL := maxL) (ret := ret) ho hl hstt hini hcode hy hK hg (hsize.trans hml.symm) (argsL := As) (rest := rest) (fun sig h => hn.trans (hlen sig h)) hstack hW (by rw [hb]; exact hdg)
    (fun vm₁ hW₁ => ⟨hf.1, hf.2, hp.2 (T.setVm vm₁) hT hW₁⟩) with ⟨v, vm₁, ⟨U', l2, c2, s2⟩, hW₁, X', ⟨g', mk, t, L, e1, e2, hq, h1, hL, h2, h3⟩, st⟩ | ⟨q, vm₁, ⟨U', l2, c2, s2⟩, hW₁, X', ⟨g', mk, t, L, E, ce, e1, e2, hq, hce, hcv, hcl, h1, hL, h2, h3⟩, st⟩
  · dsimp only [Pt.U, Pt.locs, Pt.cells, Pt.slots] at X' e1 e2 h1 h2 h3 st
    subst h1; subst h2; subst h3
    exact Or.inl ⟨v, (T.setVm vm₁).calling g' mk As.toArray, t, U', L, hT, X', hL, e1, e2, hq, st⟩
  · dsimp only [Pt.U, Pt.locs, Pt.cells, Pt.slots] at X' e1 e2 h1 h2 h3 st hcl
    subst h1; subst h2; subst h3
    exact Or.inr ⟨q, (T.setVm vm₁).calling g' mk As.toArray, t, U', L, E, ce, hT, X', hL, e1, e2, hq, hce, hcv, vx_cls hW₁ hcl, st⟩
end
end VXH
theorem vx_ofWH {l : Launch} {y : MethodName} {ws ws' : List Cond} {rm : Room} {Pc : Array Value → State → Prop} {Qc : Array Value → State → Outcome → State → Prop} {XC : String → State → State → Prop} {mc ms : Nat} {free : Addr → Prop} {cc : ByteArray} {maxL : Nat} {ret : Option FieldType} {hh : List (Nat × Nat × Nat × Nat)}
    (hy : plainName y.cls = true) (hw : ws = Cond.codeWith y cc maxL ret hh :: ws')
    (body : ∀ p e s m args below meth c s₁, BodyLoose p l y (headSpec ws rm) cc maxL ret e s m args below meth c s₁ → c.maxLocals = maxL → Pc args s →
      W p l e (headSpec ws rm).room s m args below meth c s.heap [] 0 0 (vx_MQ below Qc XC args s mc ms free) (entryFrame m args maxL)) : vx_Met l y ws rm Pc Qc XC mc ms free := by
  refine MetFree.of_bodyS (code := cc) (maxLocals := maxL) (ret := ret) hy ?_ ?_
  · intro args s m h hn
    obtain ⟨m9, meth, c, hn9, h1, h2, h3, h4, -, h5, h6, -⟩ := Cond.codeWith_spec (atoms_spec (ws := ws) h _ (by rw [hw]; exact List.mem_cons_self))
    cases hn.symm.trans hn9
    exact ⟨meth, c, h1, h2, h3, h4, h5, h6⟩
  · intro p e s m args below meth c s₁ B hml hP _
    have hh0 : s₁.heap = s.heap := by rw [B.state]; rfl
    obtain ⟨t, a1, o, b1, b2, b3⟩ := body p e s m args below meth c s₁ B hml hP s₁ hh0 (Stand.of_body B)
    exact ⟨t, o, a1, b1, b2, b3⟩
/-! ===== END ===== -/
end
section
def RX0 : String := "RingThreads$Line"
def TX0 : u_T := fun k => match k with
  | 0 => ("RingThreads$Line", "length", "I", true)
  | _ => ("RingThreads$Line", "squares", "[I", true)
def tyX0 : Nat → FieldType := fun k => match k with
  | 0 => .int
  | _ => .array .int
abbrev wsX00 : List Cond := u_ws RX0 TX0 2
theorem nmX0 : ∀ a, a < 2 → ∀ b, b < 2 → a ≠ b → (TX0 a).2.1 ≠ (TX0 b).2.1 := by decide +kernel
theorem tyX0_ok : ∀ k, k < 2 → parseFieldDescriptor (TX0 k).2.2.1 = some (tyX0 k) := by decide +kernel
abbrev cX0_init : ByteArray := prog_2_method_1_code
def yX0_init : MethodName := ⟨RX0, "<init>", "(I[I)V"⟩
abbrev cX0_xOf : ByteArray := prog_2_method_2_code
def yX0_xOf : MethodName := ⟨RX0, "xOf", "(I)I"⟩
abbrev cX0_yOf : ByteArray := prog_2_method_3_code
def yX0_yOf : MethodName := ⟨RX0, "yOf", "(I)I"⟩
abbrev cX0_pairOf : ByteArray := prog_2_method_4_code
def yX0_pairOf : MethodName := ⟨RX0, "pairOf", "(II)I"⟩
abbrev cX0_trace : ByteArray := prog_2_method_5_code
def yX0_trace : MethodName := ⟨RX0, "trace", "(II)LRingThreads$Line;"⟩
abbrev cX0_rootOf : ByteArray := prog_2_method_6_code
def yX0_rootOf : MethodName := ⟨RX0, "rootOf", "(I)I"⟩
def RX1 : String := "RingThreads$Ring"
def TX1 : u_T := fun k => match k with
  | 0 => ("RingThreads$Ring", "lines", "[LRingThreads$Line;", true)
  | 1 => ("RingThreads$Ring", "nails", "I", false)
  | 2 => ("RingThreads$Ring", "step", "I", false)
  | 3 => ("RingThreads$Ring", "at", "I", false)
  | 4 => ("RingThreads$Ring", "now", "I", false)
  | 5 => ("RingThreads$Ring", "woundSoFar", "I", false)
  | 6 => ("RingThreads$Ring", "refusedSoFar", "I", false)
  | 7 => ("RingThreads$Ring", "knots", "I", false)
  | 8 => ("RingThreads$Ring", "lying", "I", false)
  | 9 => ("RingThreads$Ring", "shades", "[I", true)
  | 10 => ("RingThreads$Ring", "left", "[I", true)
  | 11 => ("RingThreads$Ring", "settings", "[I", true)
  | 12 => ("RingThreads$Ring", "from", "[I", true)
  | 13 => ("RingThreads$Ring", "to", "[I", true)
  | 14 => ("RingThreads$Ring", "spools", "[I", true)
  | 15 => ("RingThreads$Ring", "greys", "[I", true)
  | 16 => ("RingThreads$Ring", "dark", "[I", true)
  | 17 => ("RingThreads$Ring", "crossings", "[I", true)
  | _ => ("RingThreads$Ring", "times", "[I", true)
def tyX1 : Nat → FieldType := fun k => match k with
  | 0 => .array (.object "RingThreads$Line")
  | 1 => .int
  | 2 => .int
  | 3 => .int
  | 4 => .int
  | 5 => .int
  | 6 => .int
  | 7 => .int
  | 8 => .int
  | 9 => .array .int
  | 10 => .array .int
  | 11 => .array .int
  | 12 => .array .int
  | 13 => .array .int
  | 14 => .array .int
  | 15 => .array .int
  | 16 => .array .int
  | 17 => .array .int
  | _ => .array .int
abbrev wsX10 : List Cond := u_ws RX1 TX1 19
theorem nmX1 : ∀ a, a < 19 → ∀ b, b < 19 → a ≠ b → (TX1 a).2.1 ≠ (TX1 b).2.1 := by decide +kernel
theorem tyX1_ok : ∀ k, k < 19 → parseFieldDescriptor (TX1 k).2.2.1 = some (tyX1 k) := by decide +kernel
abbrev cX1_init : ByteArray := prog_3_method_1_code
def yX1_init : MethodName := ⟨RX1, "<init>", "([LRingThreads$Line;)V"⟩
abbrev cX1_copyFrom : ByteArray := prog_3_method_2_code
def yX1_copyFrom : MethodName := ⟨RX1, "copyFrom", "(LRingThreads$Ring;)V"⟩
abbrev cX1_lineBetween : ByteArray := prog_3_method_3_code
def yX1_lineBetween : MethodName := ⟨RX1, "lineBetween", "(II)LRingThreads$Line;"⟩
abbrev cX1_timesLying : ByteArray := prog_3_method_4_code
def yX1_timesLying : MethodName := ⟨RX1, "timesLying", "(II)I"⟩
abbrev cX1_refusal : ByteArray := prog_3_method_5_code
def yX1_refusal : MethodName := ⟨RX1, "refusal", "(I)I"⟩
abbrev cX1_lackOf : ByteArray := prog_3_method_6_code
def yX1_lackOf : MethodName := ⟨RX1, "lackOf", "(I)I"⟩
abbrev cX1_misfit : ByteArray := prog_3_method_7_code
def yX1_misfit : MethodName := ⟨RX1, "misfit", "()I"⟩
abbrev cX1_squaresOfSign : ByteArray := prog_3_method_8_code
def yX1_squaresOfSign : MethodName := ⟨RX1, "squaresOfSign", "(I)I"⟩
abbrev cX1_gainTo : ByteArray := prog_3_method_9_code
def yX1_gainTo : MethodName := ⟨RX1, "gainTo", "(I)I"⟩
abbrev cX1_relief : ByteArray := prog_3_method_10_code
def yX1_relief : MethodName := ⟨RX1, "relief", "(II)I"⟩
abbrev cX1_misfitByGains : ByteArray := prog_3_method_11_code
def yX1_misfitByGains : MethodName := ⟨RX1, "misfitByGains", "([I)I"⟩
abbrev cX1_bestNail : ByteArray := prog_3_method_12_code
def yX1_bestNail : MethodName := ⟨RX1, "bestNail", "()I"⟩
abbrev cX1_nailOfMostGain : ByteArray := prog_3_method_13_code
def yX1_nailOfMostGain : MethodName := ⟨RX1, "nailOfMostGain", "()I"⟩
abbrev cX1_lay : ByteArray := prog_3_method_14_code
def yX1_lay : MethodName := ⟨RX1, "lay", "(I)V"⟩
abbrev cX1_takeOff : ByteArray := prog_3_method_15_code
def yX1_takeOff : MethodName := ⟨RX1, "takeOff", "()V"⟩
abbrev cX1_takeAllOff : ByteArray := prog_3_method_16_code
def yX1_takeAllOff : MethodName := ⟨RX1, "takeAllOff", "()V"⟩
abbrev cX1_putThread : ByteArray := prog_3_method_17_code
def yX1_putThread : MethodName := ⟨RX1, "putThread", "(II)V"⟩
abbrev cX1_endsAt : ByteArray := prog_3_method_18_code
def yX1_endsAt : MethodName := ⟨RX1, "endsAt", "(I)I"⟩
abbrev cX1_chordsOf : ByteArray := prog_3_method_19_code
def yX1_chordsOf : MethodName := ⟨RX1, "chordsOf", "(I)I"⟩
abbrev cX1_threadLying : ByteArray := prog_3_method_20_code
def yX1_threadLying : MethodName := ⟨RX1, "threadLying", "(I)I"⟩
def RX2 : String := "RingThreads$Text"
def TX2 : u_T := fun k => match k with
  | 0 => ("RingThreads$Text", "codes", "[C", true)
  | _ => ("RingThreads$Text", "length", "I", false)
def tyX2 : Nat → FieldType := fun k => match k with
  | 0 => .array .char
  | _ => .int
abbrev wsX20 : List Cond := u_ws RX2 TX2 2
theorem nmX2 : ∀ a, a < 2 → ∀ b, b < 2 → a ≠ b → (TX2 a).2.1 ≠ (TX2 b).2.1 := by decide +kernel
theorem tyX2_ok : ∀ k, k < 2 → parseFieldDescriptor (TX2 k).2.2.1 = some (tyX2 k) := by decide +kernel
abbrev cX2_init : ByteArray := prog_4_method_1_code
def yX2_init : MethodName := ⟨RX2, "<init>", "()V"⟩
abbrev cX2_add : ByteArray := prog_4_method_2_code
def yX2_add : MethodName := ⟨RX2, "add", "(C)V"⟩
abbrev cX2_isDigit : ByteArray := prog_4_method_3_code
def yX2_isDigit : MethodName := ⟨RX2, "isDigit", "(C)Z"⟩
abbrev cX2_isLetter : ByteArray := prog_4_method_4_code
def yX2_isLetter : MethodName := ⟨RX2, "isLetter", "(C)Z"⟩
abbrev cX2_endsRow : ByteArray := prog_4_method_5_code
def yX2_endsRow : MethodName := ⟨RX2, "endsRow", "(I)Z"⟩
abbrev cX2_stateBehind : ByteArray := prog_4_method_6_code
def yX2_stateBehind : MethodName := ⟨RX2, "stateBehind", "(IC)I"⟩
abbrev cX2_firstWrong : ByteArray := prog_4_method_7_code
def yX2_firstWrong : MethodName := ⟨RX2, "firstWrong", "()I"⟩
abbrev cX2_isFace : ByteArray := prog_4_method_8_code
def yX2_isFace : MethodName := ⟨RX2, "isFace", "()Z"⟩
abbrev cX2_tellTo : ByteArray := prog_4_method_9_code
def yX2_tellTo : MethodName := ⟨RX2, "tellTo", "([I)V"⟩
def RX3 : String := "RingThreads"
def TX3 : u_T := fun k => match k with
  | 0 => ("RingThreads", "ring", "LRingThreads$Ring;", true)
  | 1 => ("RingThreads", "trial", "LRingThreads$Ring;", true)
  | 2 => ("RingThreads", "scratch", "[I", true)
  | 3 => ("RingThreads", "text", "LRingThreads$Text;", true)
  | 4 => ("RingThreads", "slots", "[LRingThreads$Ring;", true)
  | 5 => ("RingThreads", "saved", "[LRingThreads$Ring;", true)
  | _ => ("RingThreads", "savedMany", "I", false)
def tyX3 : Nat → FieldType := fun k => match k with
  | 0 => .object "RingThreads$Ring"
  | 1 => .object "RingThreads$Ring"
  | 2 => .array .int
  | 3 => .object "RingThreads$Text"
  | 4 => .array (.object "RingThreads$Ring")
  | 5 => .array (.object "RingThreads$Ring")
  | _ => .int
abbrev wsX30 : List Cond := u_ws RX3 TX3 7
theorem nmX3 : ∀ a, a < 7 → ∀ b, b < 7 → a ≠ b → (TX3 a).2.1 ≠ (TX3 b).2.1 := by decide +kernel
theorem tyX3_ok : ∀ k, k < 7 → parseFieldDescriptor (TX3 k).2.2.1 = some (tyX3 k) := by decide +kernel
abbrev cX3_init : ByteArray := prog_1_method_1_code
def yX3_init : MethodName := ⟨RX3, "<init>", "()V"⟩
abbrev cX3_nails : ByteArray := prog_1_method_2_code
def yX3_nails : MethodName := ⟨RX3, "nails", "(I)I"⟩
abbrev cX3_spool : ByteArray := prog_1_method_3_code
def yX3_spool : MethodName := ⟨RX3, "spool", "(III)I"⟩
abbrev cX3_knot : ByteArray := prog_1_method_4_code
def yX3_knot : MethodName := ⟨RX3, "knot", "(I)I"⟩
abbrev cX3_set : ByteArray := prog_1_method_5_code
def yX3_set : MethodName := ⟨RX3, "set", "(II)I"⟩
abbrev cX3_wind : ByteArray := prog_1_method_6_code
def yX3_wind : MethodName := ⟨RX3, "wind", "(I)I"⟩
abbrev cX3_unwind : ByteArray := prog_1_method_7_code
def yX3_unwind : MethodName := ⟨RX3, "unwind", "()I"⟩
abbrev cX3_windBest : ByteArray := prog_1_method_8_code
def yX3_windBest : MethodName := ⟨RX3, "windBest", "(I)I"⟩
abbrev cX3_want : ByteArray := prog_1_method_9_code
def yX3_want : MethodName := ⟨RX3, "want", "(III)I"⟩
abbrev cX3_turnFace : ByteArray := prog_1_method_10_code
def yX3_turnFace : MethodName := ⟨RX3, "turnFace", "(I)I"⟩
abbrev cX3_append : ByteArray := prog_1_method_11_code
def yX3_append : MethodName := ⟨RX3, "append", "(I)I"⟩
abbrev cX3_clearBuffer : ByteArray := prog_1_method_12_code
def yX3_clearBuffer : MethodName := ⟨RX3, "clearBuffer", "()I"⟩
abbrev cX3_firstError : ByteArray := prog_1_method_13_code
def yX3_firstError : MethodName := ⟨RX3, "firstError", "()I"⟩
abbrev cX3_load : ByteArray := prog_1_method_14_code
def yX3_load : MethodName := ⟨RX3, "load", "()I"⟩
abbrev cX3_keep : ByteArray := prog_1_method_15_code
def yX3_keep : MethodName := ⟨RX3, "keep", "(I)I"⟩
abbrev cX3_goBack : ByteArray := prog_1_method_16_code
def yX3_goBack : MethodName := ⟨RX3, "goBack", "(I)I"⟩
abbrev cX3_undo : ByteArray := prog_1_method_17_code
def yX3_undo : MethodName := ⟨RX3, "undo", "()I"⟩
abbrev cX3_nailOf : ByteArray := prog_1_method_18_code
def yX3_nailOf : MethodName := ⟨RX3, "nailOf", "(II)I"⟩
abbrev cX3_spoolOf : ByteArray := prog_1_method_19_code
def yX3_spoolOf : MethodName := ⟨RX3, "spoolOf", "(II)I"⟩
abbrev cX3_chord : ByteArray := prog_1_method_20_code
def yX3_chord : MethodName := ⟨RX3, "chord", "(III)I"⟩
abbrev cX3_wound : ByteArray := prog_1_method_21_code
def yX3_wound : MethodName := ⟨RX3, "wound", "(II)I"⟩
abbrev cX3_square : ByteArray := prog_1_method_22_code
def yX3_square : MethodName := ⟨RX3, "square", "(III)I"⟩
abbrev cX3_count : ByteArray := prog_1_method_23_code
def yX3_count : MethodName := ⟨RX3, "count", "(I)I"⟩
abbrev cX3_setting : ByteArray := prog_1_method_24_code
def yX3_setting : MethodName := ⟨RX3, "setting", "(I)I"⟩
abbrev cX3_whyNot : ByteArray := prog_1_method_25_code
def yX3_whyNot : MethodName := ⟨RX3, "whyNot", "(I)I"⟩
abbrev cX3_gain : ByteArray := prog_1_method_26_code
def yX3_gain : MethodName := ⟨RX3, "gain", "(I)I"⟩
abbrev cX3_best : ByteArray := prog_1_method_27_code
def yX3_best : MethodName := ⟨RX3, "best", "()I"⟩
abbrev cX3_bestTwo : ByteArray := prog_1_method_28_code
def yX3_bestTwo : MethodName := ⟨RX3, "bestTwo", "()I"⟩
abbrev cX3_palest : ByteArray := prog_1_method_29_code
def yX3_palest : MethodName := ⟨RX3, "palest", "()I"⟩
abbrev cX3_bestSpool : ByteArray := prog_1_method_30_code
def yX3_bestSpool : MethodName := ⟨RX3, "bestSpool", "()I"⟩
abbrev cX3_shownShare : ByteArray := prog_1_method_31_code
def yX3_shownShare : MethodName := ⟨RX3, "shownShare", "()D"⟩
abbrev cX3_digest : ByteArray := prog_1_method_32_code
def yX3_digest : MethodName := ⟨RX3, "digest", "()J"⟩
abbrev cX3_withNails : ByteArray := prog_1_method_33_code
def yX3_withNails : MethodName := ⟨RX3, "withNails", "(J)J"⟩
abbrev cX3_withSpools : ByteArray := prog_1_method_34_code
def yX3_withSpools : MethodName := ⟨RX3, "withSpools", "(J)J"⟩
abbrev cX3_withChordsLying : ByteArray := prog_1_method_35_code
def yX3_withChordsLying : MethodName := ⟨RX3, "withChordsLying", "(J)J"⟩
abbrev cX3_withSquares : ByteArray := prog_1_method_36_code
def yX3_withSquares : MethodName := ⟨RX3, "withSquares", "(J)J"⟩
abbrev cX3_withChord : ByteArray := prog_1_method_37_code
def yX3_withChord : MethodName := ⟨RX3, "withChord", "(JII)J"⟩
abbrev cX3_bitsOf : ByteArray := prog_1_method_38_code
def yX3_bitsOf : MethodName := ⟨RX3, "bitsOf", "(D)J"⟩
abbrev cX3_stepOf : ByteArray := prog_1_method_39_code
def yX3_stepOf : MethodName := ⟨RX3, "stepOf", "(I)I"⟩
abbrev cX3_needNail : ByteArray := prog_1_method_40_code
def yX3_needNail : MethodName := ⟨RX3, "needNail", "(I)V"⟩
abbrev cX3_needSpool : ByteArray := prog_1_method_41_code
def yX3_needSpool : MethodName := ⟨RX3, "needSpool", "(I)V"⟩
abbrev cX3_needSetting : ByteArray := prog_1_method_42_code
def yX3_needSetting : MethodName := ⟨RX3, "needSetting", "(I)V"⟩
abbrev cX3_needSquare : ByteArray := prog_1_method_43_code
def yX3_needSquare : MethodName := ⟨RX3, "needSquare", "(II)V"⟩
abbrev cX3_needRange : ByteArray := prog_1_method_44_code
def yX3_needRange : MethodName := ⟨RX3, "needRange", "(III)V"⟩
abbrev cX3_save : ByteArray := prog_1_method_45_code
def yX3_save : MethodName := ⟨RX3, "save", "()V"⟩
abbrev cX3_copyTo : ByteArray := prog_1_method_46_code
def yX3_copyTo : MethodName := ⟨RX3, "copyTo", "([LRingThreads$Ring;I)V"⟩
def RX4 : String := "RingThreadsModel"
def TX4 : u_T := fun k => match k with
  | 0 => ("RingThreadsModel", "thrown", "I", false)
  | 1 => ("RingThreadsModel", "s", "[I", true)
  | 2 => ("RingThreadsModel", "saved", "[I", true)
  | 3 => ("RingThreadsModel", "savedMany", "I", false)
  | 4 => ("RingThreadsModel", "slots", "[I", true)
  | 5 => ("RingThreadsModel", "hasSlot", "[Z", true)
  | 6 => ("RingThreadsModel", "buffer", "[I", true)
  | 7 => ("RingThreadsModel", "length", "I", false)
  | 8 => ("RingThreadsModel", "crossed", "[I", true)
  | 9 => ("RingThreadsModel", "crossedMany", "I", false)
  | 10 => ("RingThreadsModel", "marks", "[I", true)
  | 11 => ("RingThreadsModel", "mark", "I", false)
  | 12 => ("RingThreadsModel", "greys", "[I", true)
  | 13 => ("RingThreadsModel", "at", "I", false)
  | 14 => ("RingThreadsModel", "isWell", "Z", false)
  | _ => ("RingThreadsModel", "hash", "J", false)
def tyX4 : Nat → FieldType := fun k => match k with
  | 0 => .int
  | 1 => .array .int
  | 2 => .array .int
  | 3 => .int
  | 4 => .array .int
  | 5 => .array .boolean
  | 6 => .array .int
  | 7 => .int
  | 8 => .array .int
  | 9 => .int
  | 10 => .array .int
  | 11 => .int
  | 12 => .array .int
  | 13 => .int
  | 14 => .boolean
  | _ => .long
abbrev wsX40 : List Cond := u_ws RX4 TX4 16
theorem nmX4 : ∀ a, a < 16 → ∀ b, b < 16 → a ≠ b → (TX4 a).2.1 ≠ (TX4 b).2.1 := by decide +kernel
theorem tyX4_ok : ∀ k, k < 16 → parseFieldDescriptor (TX4 k).2.2.1 = some (tyX4 k) := by decide +kernel
abbrev cX4_init : ByteArray := prog_6_method_1_code
def yX4_init : MethodName := ⟨RX4, "<init>", "()V"⟩
abbrev cX4_thrown : ByteArray := prog_6_method_2_code
def yX4_thrown : MethodName := ⟨RX4, "thrown", "()I"⟩
abbrev cX4_in : ByteArray := prog_6_method_3_code
def yX4_in : MethodName := ⟨RX4, "in", "(III)Z"⟩
abbrev cX4_fails : ByteArray := prog_6_method_4_code
def yX4_fails : MethodName := ⟨RX4, "fails", "(I)I"⟩
abbrev cX4_abs : ByteArray := prog_6_method_5_code
def yX4_abs : MethodName := ⟨RX4, "abs", "(I)I"⟩
abbrev cX4_saves : ByteArray := prog_6_method_6_code
def yX4_saves : MethodName := ⟨RX4, "saves", "()V"⟩
abbrev cX4_isNail : ByteArray := prog_6_method_7_code
def yX4_isNail : MethodName := ⟨RX4, "isNail", "(I)Z"⟩
abbrev cX4_isSpool : ByteArray := prog_6_method_8_code
def yX4_isSpool : MethodName := ⟨RX4, "isSpool", "(I)Z"⟩
abbrev cX4_isSquare : ByteArray := prog_6_method_9_code
def yX4_isSquare : MethodName := ⟨RX4, "isSquare", "(II)Z"⟩
abbrev cX4_quarter : ByteArray := prog_6_method_10_code
def yX4_quarter : MethodName := ⟨RX4, "quarter", "(I)I"⟩
abbrev cX4_ring : ByteArray := prog_6_method_11_code
def yX4_ring : MethodName := ⟨RX4, "ring", "(I)I"⟩
abbrev cX4_x : ByteArray := prog_6_method_12_code
def yX4_x : MethodName := ⟨RX4, "x", "(I)I"⟩
abbrev cX4_y : ByteArray := prog_6_method_13_code
def yX4_y : MethodName := ⟨RX4, "y", "(I)I"⟩
abbrev cX4_root : ByteArray := prog_6_method_14_code
def yX4_root : MethodName := ⟨RX4, "root", "(I)I"⟩
abbrev cX4_lengthOf : ByteArray := prog_6_method_15_code
def yX4_lengthOf : MethodName := ⟨RX4, "lengthOf", "(II)I"⟩
abbrev cX4_cell : ByteArray := prog_6_method_16_code
def yX4_cell : MethodName := ⟨RX4, "cell", "(I)I"⟩
abbrev cX4_crosses : ByteArray := prog_6_method_17_code
def yX4_crosses : MethodName := ⟨RX4, "crosses", "(II)V"⟩
abbrev cX4_laysCrossed : ByteArray := prog_6_method_18_code
def yX4_laysCrossed : MethodName := ⟨RX4, "laysCrossed", "(II)V"⟩
abbrev cX4_ofChord : ByteArray := prog_6_method_19_code
def yX4_ofChord : MethodName := ⟨RX4, "ofChord", "(II)I"⟩
abbrev cX4_isBetween : ByteArray := prog_6_method_20_code
def yX4_isBetween : MethodName := ⟨RX4, "isBetween", "(III)Z"⟩
abbrev cX4_liesBetween : ByteArray := prog_6_method_21_code
def yX4_liesBetween : MethodName := ⟨RX4, "liesBetween", "(II)I"⟩
abbrev cX4_shade : ByteArray := prog_6_method_22_code
def yX4_shade : MethodName := ⟨RX4, "shade", "(I)I"⟩
abbrev cX4_left : ByteArray := prog_6_method_23_code
def yX4_left : MethodName := ⟨RX4, "left", "(I)I"⟩
abbrev cX4_darkens : ByteArray := prog_6_method_24_code
def yX4_darkens : MethodName := ⟨RX4, "darkens", "(III)V"⟩
abbrev cX4_winds : ByteArray := prog_6_method_25_code
def yX4_winds : MethodName := ⟨RX4, "winds", "(I)V"⟩
abbrev cX4_unwinds : ByteArray := prog_6_method_26_code
def yX4_unwinds : MethodName := ⟨RX4, "unwinds", "()V"⟩
abbrev cX4_refused : ByteArray := prog_6_method_27_code
def yX4_refused : MethodName := ⟨RX4, "refused", "(III)I"⟩
abbrev cX4_lack : ByteArray := prog_6_method_28_code
def yX4_lack : MethodName := ⟨RX4, "lack", "(I)I"⟩
abbrev cX4_misfit : ByteArray := prog_6_method_29_code
def yX4_misfit : MethodName := ⟨RX4, "misfit", "()I"⟩
abbrev cX4_gained : ByteArray := prog_6_method_30_code
def yX4_gained : MethodName := ⟨RX4, "gained", "(III)I"⟩
abbrev cX4_isNearer : ByteArray := prog_6_method_31_code
def yX4_isNearer : MethodName := ⟨RX4, "isNearer", "(II)Z"⟩
abbrev cX4_bestWith : ByteArray := prog_6_method_32_code
def yX4_bestWith : MethodName := ⟨RX4, "bestWith", "(I)I"⟩
abbrev cX4_nails : ByteArray := prog_6_method_33_code
def yX4_nails : MethodName := ⟨RX4, "nails", "(I)I"⟩
abbrev cX4_chordsOf : ByteArray := prog_6_method_34_code
def yX4_chordsOf : MethodName := ⟨RX4, "chordsOf", "(I)I"⟩
abbrev cX4_spool : ByteArray := prog_6_method_35_code
def yX4_spool : MethodName := ⟨RX4, "spool", "(III)I"⟩
abbrev cX4_knot : ByteArray := prog_6_method_36_code
def yX4_knot : MethodName := ⟨RX4, "knot", "(I)I"⟩
abbrev cX4_set : ByteArray := prog_6_method_37_code
def yX4_set : MethodName := ⟨RX4, "set", "(II)I"⟩
abbrev cX4_wind : ByteArray := prog_6_method_38_code
def yX4_wind : MethodName := ⟨RX4, "wind", "(I)I"⟩
abbrev cX4_unwind : ByteArray := prog_6_method_39_code
def yX4_unwind : MethodName := ⟨RX4, "unwind", "()I"⟩
abbrev cX4_hasGain : ByteArray := prog_6_method_40_code
def yX4_hasGain : MethodName := ⟨RX4, "hasGain", "(I)Z"⟩
abbrev cX4_windBest : ByteArray := prog_6_method_41_code
def yX4_windBest : MethodName := ⟨RX4, "windBest", "(I)I"⟩
abbrev cX4_want : ByteArray := prog_6_method_42_code
def yX4_want : MethodName := ⟨RX4, "want", "(III)I"⟩
abbrev cX4_keepsGreys : ByteArray := prog_6_method_43_code
def yX4_keepsGreys : MethodName := ⟨RX4, "keepsGreys", "()V"⟩
abbrev cX4_turns : ByteArray := prog_6_method_44_code
def yX4_turns : MethodName := ⟨RX4, "turns", "(II)V"⟩
abbrev cX4_turnFace : ByteArray := prog_6_method_45_code
def yX4_turnFace : MethodName := ⟨RX4, "turnFace", "(I)I"⟩
abbrev cX4_append : ByteArray := prog_6_method_46_code
def yX4_append : MethodName := ⟨RX4, "append", "(I)I"⟩
abbrev cX4_clearBuffer : ByteArray := prog_6_method_47_code
def yX4_clearBuffer : MethodName := ⟨RX4, "clearBuffer", "()I"⟩
abbrev cX4_sign : ByteArray := prog_6_method_48_code
def yX4_sign : MethodName := ⟨RX4, "sign", "()I"⟩
abbrev cX4_takes : ByteArray := prog_6_method_49_code
def yX4_takes : MethodName := ⟨RX4, "takes", "(II)I"⟩
abbrev cX4_laysRow : ByteArray := prog_6_method_50_code
def yX4_laysRow : MethodName := ⟨RX4, "laysRow", "(IIIIZ)V"⟩
abbrev cX4_readsRow : ByteArray := prog_6_method_51_code
def yX4_readsRow : MethodName := ⟨RX4, "readsRow", "(Z)V"⟩
abbrev cX4_readsAll : ByteArray := prog_6_method_52_code
def yX4_readsAll : MethodName := ⟨RX4, "readsAll", "(Z)V"⟩
abbrev cX4_firstError : ByteArray := prog_6_method_53_code
def yX4_firstError : MethodName := ⟨RX4, "firstError", "()I"⟩
abbrev cX4_load : ByteArray := prog_6_method_54_code
def yX4_load : MethodName := ⟨RX4, "load", "()I"⟩
abbrev cX4_keep : ByteArray := prog_6_method_55_code
def yX4_keep : MethodName := ⟨RX4, "keep", "(I)I"⟩
abbrev cX4_goBack : ByteArray := prog_6_method_56_code
def yX4_goBack : MethodName := ⟨RX4, "goBack", "(I)I"⟩
abbrev cX4_undo : ByteArray := prog_6_method_57_code
def yX4_undo : MethodName := ⟨RX4, "undo", "()I"⟩
abbrev cX4_ends : ByteArray := prog_6_method_58_code
def yX4_ends : MethodName := ⟨RX4, "ends", "(I)I"⟩
abbrev cX4_tellsNail : ByteArray := prog_6_method_59_code
def yX4_tellsNail : MethodName := ⟨RX4, "tellsNail", "(II)I"⟩
abbrev cX4_nailOf : ByteArray := prog_6_method_60_code
def yX4_nailOf : MethodName := ⟨RX4, "nailOf", "(II)I"⟩
abbrev cX4_threadOf : ByteArray := prog_6_method_61_code
def yX4_threadOf : MethodName := ⟨RX4, "threadOf", "(I)I"⟩
abbrev cX4_tellsSpool : ByteArray := prog_6_method_62_code
def yX4_tellsSpool : MethodName := ⟨RX4, "tellsSpool", "(II)I"⟩
abbrev cX4_spoolOf : ByteArray := prog_6_method_63_code
def yX4_spoolOf : MethodName := ⟨RX4, "spoolOf", "(II)I"⟩
abbrev cX4_tellsChord : ByteArray := prog_6_method_64_code
def yX4_tellsChord : MethodName := ⟨RX4, "tellsChord", "(III)I"⟩
abbrev cX4_chord : ByteArray := prog_6_method_65_code
def yX4_chord : MethodName := ⟨RX4, "chord", "(III)I"⟩
abbrev cX4_tellsWound : ByteArray := prog_6_method_66_code
def yX4_tellsWound : MethodName := ⟨RX4, "tellsWound", "(II)I"⟩
abbrev cX4_wound : ByteArray := prog_6_method_67_code
def yX4_wound : MethodName := ⟨RX4, "wound", "(II)I"⟩
abbrev cX4_over : ByteArray := prog_6_method_68_code
def yX4_over : MethodName := ⟨RX4, "over", "(I)I"⟩
abbrev cX4_tellsSquare : ByteArray := prog_6_method_69_code
def yX4_tellsSquare : MethodName := ⟨RX4, "tellsSquare", "(II)I"⟩
abbrev cX4_square : ByteArray := prog_6_method_70_code
def yX4_square : MethodName := ⟨RX4, "square", "(III)I"⟩
abbrev cX4_squaresThat : ByteArray := prog_6_method_71_code
def yX4_squaresThat : MethodName := ⟨RX4, "squaresThat", "(I)I"⟩
abbrev cX4_tellsCount : ByteArray := prog_6_method_72_code
def yX4_tellsCount : MethodName := ⟨RX4, "tellsCount", "(I)I"⟩
abbrev cX4_count : ByteArray := prog_6_method_73_code
def yX4_count : MethodName := ⟨RX4, "count", "(I)I"⟩
abbrev cX4_setting : ByteArray := prog_6_method_74_code
def yX4_setting : MethodName := ⟨RX4, "setting", "(I)I"⟩
abbrev cX4_whyNot : ByteArray := prog_6_method_75_code
def yX4_whyNot : MethodName := ⟨RX4, "whyNot", "(I)I"⟩
abbrev cX4_tellsGain : ByteArray := prog_6_method_76_code
def yX4_tellsGain : MethodName := ⟨RX4, "tellsGain", "(I)I"⟩
abbrev cX4_gain : ByteArray := prog_6_method_77_code
def yX4_gain : MethodName := ⟨RX4, "gain", "(I)I"⟩
abbrev cX4_best : ByteArray := prog_6_method_78_code
def yX4_best : MethodName := ⟨RX4, "best", "()I"⟩
abbrev cX4_isSecondRefused : ByteArray := prog_6_method_79_code
def yX4_isSecondRefused : MethodName := ⟨RX4, "isSecondRefused", "(II)Z"⟩
abbrev cX4_twoBest : ByteArray := prog_6_method_80_code
def yX4_twoBest : MethodName := ⟨RX4, "twoBest", "()I"⟩
abbrev cX4_bestTwo : ByteArray := prog_6_method_81_code
def yX4_bestTwo : MethodName := ⟨RX4, "bestTwo", "()I"⟩
abbrev cX4_palestOne : ByteArray := prog_6_method_82_code
def yX4_palestOne : MethodName := ⟨RX4, "palestOne", "()I"⟩
abbrev cX4_palest : ByteArray := prog_6_method_83_code
def yX4_palest : MethodName := ⟨RX4, "palest", "()I"⟩
abbrev cX4_spoolBest : ByteArray := prog_6_method_84_code
def yX4_spoolBest : MethodName := ⟨RX4, "spoolBest", "()I"⟩
abbrev cX4_bestSpool : ByteArray := prog_6_method_85_code
def yX4_bestSpool : MethodName := ⟨RX4, "bestSpool", "()I"⟩
abbrev cX4_share : ByteArray := prog_6_method_86_code
def yX4_share : MethodName := ⟨RX4, "share", "()D"⟩
abbrev cX4_shownShare : ByteArray := prog_6_method_87_code
def yX4_shownShare : MethodName := ⟨RX4, "shownShare", "()D"⟩
abbrev cX4_hashes : ByteArray := prog_6_method_88_code
def yX4_hashes : MethodName := ⟨RX4, "hashes", "(J)V"⟩
abbrev cX4_hashesNail : ByteArray := prog_6_method_89_code
def yX4_hashesNail : MethodName := ⟨RX4, "hashesNail", "(I)V"⟩
abbrev cX4_hashesLooks : ByteArray := prog_6_method_90_code
def yX4_hashesLooks : MethodName := ⟨RX4, "hashesLooks", "()V"⟩
abbrev cX4_digest : ByteArray := prog_6_method_91_code
def yX4_digest : MethodName := ⟨RX4, "digest", "()J"⟩
def RJx145de : String := "java/io/Serializable"
def TJx145de : u_T := fun k => match k with
  | _ => ("", "", "", false)
def tyJx145de : Nat → FieldType := fun k => match k with
  | _ => .int
theorem nmJx145de : ∀ a, a < 0 → ∀ b, b < 0 → a ≠ b → (TJx145de a).2.1 ≠ (TJx145de b).2.1 := by decide +kernel
theorem tyJx145de_ok : ∀ k, k < 0 → parseFieldDescriptor (TJx145de k).2.2.1 = some (tyJx145de k) := by decide +kernel
def RJx8e188 : String := "java/lang/Cloneable"
def TJx8e188 : u_T := fun k => match k with
  | _ => ("", "", "", false)
def tyJx8e188 : Nat → FieldType := fun k => match k with
  | _ => .int
theorem nmJx8e188 : ∀ a, a < 0 → ∀ b, b < 0 → a ≠ b → (TJx8e188 a).2.1 ≠ (TJx8e188 b).2.1 := by decide +kernel
theorem tyJx8e188_ok : ∀ k, k < 0 → parseFieldDescriptor (TJx8e188 k).2.2.1 = some (tyJx8e188 k) := by decide +kernel
def RJxb160c : String := "java/lang/Comparable"
def TJxb160c : u_T := fun k => match k with
  | _ => ("", "", "", false)
def tyJxb160c : Nat → FieldType := fun k => match k with
  | _ => .int
theorem nmJxb160c : ∀ a, a < 0 → ∀ b, b < 0 → a ≠ b → (TJxb160c a).2.1 ≠ (TJxb160c b).2.1 := by decide +kernel
theorem tyJxb160c_ok : ∀ k, k < 0 → parseFieldDescriptor (TJxb160c k).2.2.1 = some (tyJxb160c k) := by decide +kernel
def RJxe99ae : String := "java/lang/Double"
def TJxe99ae : u_T := fun k => match k with
  | _ => ("", "", "", false)
def tyJxe99ae : Nat → FieldType := fun k => match k with
  | _ => .int
theorem nmJxe99ae : ∀ a, a < 0 → ∀ b, b < 0 → a ≠ b → (TJxe99ae a).2.1 ≠ (TJxe99ae b).2.1 := by decide +kernel
theorem tyJxe99ae_ok : ∀ k, k < 0 → parseFieldDescriptor (TJxe99ae k).2.2.1 = some (tyJxe99ae k) := by decide +kernel
abbrev cJxe99ae_isNaN_b9ae7 : ByteArray := prog_8_method_6_code
def yJxe99ae_isNaN_b9ae7 : MethodName := ⟨RJxe99ae, "isNaN", "(D)Z"⟩
abbrev cJxe99ae_doubleToLongBits_ccdee : ByteArray := prog_8_method_23_code
def yJxe99ae_doubleToLongBits_ccdee : MethodName := ⟨RJxe99ae, "doubleToLongBits", "(D)J"⟩
def RJ9 : String := "java/lang/Math"
def TJ9 : u_T := fun k => match k with
  | _ => ("", "", "", false)
def tyJ9 : Nat → FieldType := fun k => match k with
  | _ => .int
theorem nmJ9 : ∀ a, a < 0 → ∀ b, b < 0 → a ≠ b → (TJ9 a).2.1 ≠ (TJ9 b).2.1 := by decide +kernel
theorem tyJ9_ok : ∀ k, k < 0 → parseFieldDescriptor (TJ9 k).2.2.1 = some (tyJ9 k) := by decide +kernel
abbrev cJ9_abs_0f7a4 : ByteArray := prog_13_method_59_code
def yJ9_abs_0f7a4 : MethodName := ⟨RJ9, "abs", "(I)I"⟩
abbrev cJ9_max_7cf53 : ByteArray := prog_13_method_65_code
def yJ9_max_7cf53 : MethodName := ⟨RJ9, "max", "(II)I"⟩
abbrev cJ9_min_7cf53 : ByteArray := prog_13_method_69_code
def yJ9_min_7cf53 : MethodName := ⟨RJ9, "min", "(II)I"⟩
def RJxd2413 : String := "java/lang/Number"
def TJxd2413 : u_T := fun k => match k with
  | _ => ("", "", "", false)
def tyJxd2413 : Nat → FieldType := fun k => match k with
  | _ => .int
theorem nmJxd2413 : ∀ a, a < 0 → ∀ b, b < 0 → a ≠ b → (TJxd2413 a).2.1 ≠ (TJxd2413 b).2.1 := by decide +kernel
theorem tyJxd2413_ok : ∀ k, k < 0 → parseFieldDescriptor (TJxd2413 k).2.2.1 = some (tyJxd2413 k) := by decide +kernel
def RJ0 : String := "java/lang/String"
def TJ0 : u_T := fun k => match k with
  | _ => ("", "", "", false)
def tyJ0 : Nat → FieldType := fun k => match k with
  | _ => .int
theorem nmJ0 : ∀ a, a < 0 → ∀ b, b < 0 → a ≠ b → (TJ0 a).2.1 ≠ (TJ0 b).2.1 := by decide +kernel
theorem tyJ0_ok : ∀ k, k < 0 → parseFieldDescriptor (TJ0 k).2.2.1 = some (tyJ0 k) := by decide +kernel
def RJ10 : String := "java/lang/System"
def TJ10 : u_T := fun k => match k with
  | _ => ("", "", "", false)
def tyJ10 : Nat → FieldType := fun k => match k with
  | _ => .int
theorem nmJ10 : ∀ a, a < 0 → ∀ b, b < 0 → a ≠ b → (TJ10 a).2.1 ≠ (TJ10 b).2.1 := by decide +kernel
theorem tyJ10_ok : ∀ k, k < 0 → parseFieldDescriptor (TJ10 k).2.2.1 = some (tyJ10 k) := by decide +kernel
def RJxfd54e : String := "java/lang/constant/Constable"
def TJxfd54e : u_T := fun k => match k with
  | _ => ("", "", "", false)
def tyJxfd54e : Nat → FieldType := fun k => match k with
  | _ => .int
theorem nmJxfd54e : ∀ a, a < 0 → ∀ b, b < 0 → a ≠ b → (TJxfd54e a).2.1 ≠ (TJxfd54e b).2.1 := by decide +kernel
theorem tyJxfd54e_ok : ∀ k, k < 0 → parseFieldDescriptor (TJxfd54e k).2.2.1 = some (tyJxfd54e k) := by decide +kernel
def RJx3cf43 : String := "java/lang/constant/ConstantDesc"
def TJx3cf43 : u_T := fun k => match k with
  | _ => ("", "", "", false)
def tyJx3cf43 : Nat → FieldType := fun k => match k with
  | _ => .int
theorem nmJx3cf43 : ∀ a, a < 0 → ∀ b, b < 0 → a ≠ b → (TJx3cf43 a).2.1 ≠ (TJx3cf43 b).2.1 := by decide +kernel
theorem tyJx3cf43_ok : ∀ k, k < 0 → parseFieldDescriptor (TJx3cf43 k).2.2.1 = some (tyJx3cf43 k) := by decide +kernel
def RJ7 : String := "java/util/Arrays"
def TJ7 : u_T := fun k => match k with
  | _ => ("", "", "", false)
def tyJ7 : Nat → FieldType := fun k => match k with
  | _ => .int
theorem nmJ7 : ∀ a, a < 0 → ∀ b, b < 0 → a ≠ b → (TJ7 a).2.1 ≠ (TJ7 b).2.1 := by decide +kernel
theorem tyJ7_ok : ∀ k, k < 0 → parseFieldDescriptor (TJ7 k).2.2.1 = some (tyJ7 k) := by decide +kernel
abbrev cJ7_copyOf_59c91 : ByteArray := prog_19_method_123_code
def yJ7_copyOf_59c91 : MethodName := ⟨RJ7, "copyOf", "([II)[I"⟩
def RL : String := "RingThreadsLaw"
abbrev cL_nails : ByteArray := method_3_code
def yL_nails : MethodName := ⟨RL, "nails", "(LRingThreads;I[J)I"⟩
abbrev cL_spool : ByteArray := method_4_code
def yL_spool : MethodName := ⟨RL, "spool", "(LRingThreads;III[J)I"⟩
abbrev cL_knot : ByteArray := method_5_code
def yL_knot : MethodName := ⟨RL, "knot", "(LRingThreads;I[J)I"⟩
abbrev cL_set : ByteArray := method_6_code
def yL_set : MethodName := ⟨RL, "set", "(LRingThreads;II[J)I"⟩
abbrev cL_wind : ByteArray := method_7_code
def yL_wind : MethodName := ⟨RL, "wind", "(LRingThreads;I[J)I"⟩
abbrev cL_unwind : ByteArray := method_8_code
def yL_unwind : MethodName := ⟨RL, "unwind", "(LRingThreads;[J)I"⟩
abbrev cL_windBest : ByteArray := method_9_code
def yL_windBest : MethodName := ⟨RL, "windBest", "(LRingThreads;I[J)I"⟩
abbrev cL_want : ByteArray := method_10_code
def yL_want : MethodName := ⟨RL, "want", "(LRingThreads;III[J)I"⟩
abbrev cL_turnFace : ByteArray := method_11_code
def yL_turnFace : MethodName := ⟨RL, "turnFace", "(LRingThreads;I[J)I"⟩
abbrev cL_append : ByteArray := method_12_code
def yL_append : MethodName := ⟨RL, "append", "(LRingThreads;I[J)I"⟩
abbrev cL_load : ByteArray := method_13_code
def yL_load : MethodName := ⟨RL, "load", "(LRingThreads;[J)I"⟩
abbrev cL_keep : ByteArray := method_14_code
def yL_keep : MethodName := ⟨RL, "keep", "(LRingThreads;I[J)I"⟩
abbrev cL_goBack : ByteArray := method_15_code
def yL_goBack : MethodName := ⟨RL, "goBack", "(LRingThreads;I[J)I"⟩
abbrev cL_undo : ByteArray := method_16_code
def yL_undo : MethodName := ⟨RL, "undo", "(LRingThreads;[J)I"⟩
abbrev cL_nailOf : ByteArray := method_17_code
def yL_nailOf : MethodName := ⟨RL, "nailOf", "(LRingThreads;II[J)I"⟩
abbrev cL_spoolOf : ByteArray := method_18_code
def yL_spoolOf : MethodName := ⟨RL, "spoolOf", "(LRingThreads;II[J)I"⟩
abbrev cL_chord : ByteArray := method_19_code
def yL_chord : MethodName := ⟨RL, "chord", "(LRingThreads;III[J)I"⟩
abbrev cL_wound : ByteArray := method_20_code
def yL_wound : MethodName := ⟨RL, "wound", "(LRingThreads;II[J)I"⟩
abbrev cL_square : ByteArray := method_21_code
def yL_square : MethodName := ⟨RL, "square", "(LRingThreads;III[J)I"⟩
abbrev cL_count : ByteArray := method_22_code
def yL_count : MethodName := ⟨RL, "count", "(LRingThreads;I[J)I"⟩
abbrev cL_setting : ByteArray := method_23_code
def yL_setting : MethodName := ⟨RL, "setting", "(LRingThreads;I[J)I"⟩
abbrev cL_whyNot : ByteArray := method_24_code
def yL_whyNot : MethodName := ⟨RL, "whyNot", "(LRingThreads;I[J)I"⟩
abbrev cL_gain : ByteArray := method_25_code
def yL_gain : MethodName := ⟨RL, "gain", "(LRingThreads;I[J)I"⟩
abbrev cL_law : ByteArray := code
def yL_law : MethodName := ⟨RL, "law", "([I)Z"⟩
abbrev vwCl : List vw_C := [(RX0, TX0, 2), (RX1, TX1, 19), (RX2, TX2, 2), (RX3, TX3, 7), (RX4, TX4, 16)]
end
section
theorem dX0_init_0 : decode cX0_init 0 = .ok (.aload_n 0, 1) := by decide +kernel
theorem dX0_init_1 : decode cX0_init 1 = .ok (.invokespecial 3, 3) := by decide +kernel
theorem dX0_init_4 : decode cX0_init 4 = .ok (.aload_n 0, 1) := by decide +kernel
theorem dX0_init_5 : decode cX0_init 5 = .ok (.iload_n 1, 1) := by decide +kernel
theorem dX0_init_6 : decode cX0_init 6 = .ok (.putfield 9, 3) := by decide +kernel
theorem dX0_init_9 : decode cX0_init 9 = .ok (.aload_n 0, 1) := by decide +kernel
theorem dX0_init_10 : decode cX0_init 10 = .ok (.aload_n 2, 1) := by decide +kernel
theorem dX0_init_11 : decode cX0_init 11 = .ok (.putfield 15, 3) := by decide +kernel
theorem dX0_init_14 : decode cX0_init 14 = .ok (.return_, 1) := by decide +kernel
theorem dX0_xOf_0 : decode cX0_xOf 0 = .ok (.iload_n 0, 1) := by decide +kernel
theorem dX0_xOf_1 : decode cX0_xOf 1 = .ok (.ifCond .lt 9, 3) := by decide +kernel
theorem dX0_xOf_4 : decode cX0_xOf 4 = .ok (.iload_n 0, 1) := by decide +kernel
theorem dX0_xOf_5 : decode cX0_xOf 5 = .ok (.bipush 24, 2) := by decide +kernel
theorem dX0_xOf_7 : decode cX0_xOf 7 = .ok (.if_icmp .lt 8, 3) := by decide +kernel
theorem dX0_xOf_10 : decode cX0_xOf 10 = .ok (.bipush 60, 2) := by decide +kernel
theorem dX0_xOf_12 : decode cX0_xOf 12 = .ok (.goto 11, 3) := by decide +kernel
theorem dX0_xOf_15 : decode cX0_xOf 15 = .ok (.bipush 60, 2) := by decide +kernel
theorem dX0_xOf_17 : decode cX0_xOf 17 = .ok (.getstatic 19, 3) := by decide +kernel
theorem dX0_xOf_20 : decode cX0_xOf 20 = .ok (.iload_n 0, 1) := by decide +kernel
theorem dX0_xOf_21 : decode cX0_xOf 21 = .ok (.iaload, 1) := by decide +kernel
theorem dX0_xOf_22 : decode cX0_xOf 22 = .ok (.iadd, 1) := by decide +kernel
theorem dX0_xOf_23 : decode cX0_xOf 23 = .ok (.ireturn, 1) := by decide +kernel
theorem dX0_yOf_0 : decode cX0_yOf 0 = .ok (.iload_n 0, 1) := by decide +kernel
theorem dX0_yOf_1 : decode cX0_yOf 1 = .ok (.ifCond .lt 9, 3) := by decide +kernel
theorem dX0_yOf_4 : decode cX0_yOf 4 = .ok (.iload_n 0, 1) := by decide +kernel
theorem dX0_yOf_5 : decode cX0_yOf 5 = .ok (.bipush 24, 2) := by decide +kernel
theorem dX0_yOf_7 : decode cX0_yOf 7 = .ok (.if_icmp .lt 8, 3) := by decide +kernel
theorem dX0_yOf_10 : decode cX0_yOf 10 = .ok (.bipush 60, 2) := by decide +kernel
theorem dX0_yOf_12 : decode cX0_yOf 12 = .ok (.goto 17, 3) := by decide +kernel
theorem dX0_yOf_15 : decode cX0_yOf 15 = .ok (.bipush 60, 2) := by decide +kernel
theorem dX0_yOf_17 : decode cX0_yOf 17 = .ok (.getstatic 19, 3) := by decide +kernel
theorem dX0_yOf_20 : decode cX0_yOf 20 = .ok (.iload_n 0, 1) := by decide +kernel
theorem dX0_yOf_21 : decode cX0_yOf 21 = .ok (.bipush 18, 2) := by decide +kernel
theorem dX0_yOf_23 : decode cX0_yOf 23 = .ok (.iadd, 1) := by decide +kernel
theorem dX0_yOf_24 : decode cX0_yOf 24 = .ok (.bipush 24, 2) := by decide +kernel
theorem dX0_yOf_26 : decode cX0_yOf 26 = .ok (.irem, 1) := by decide +kernel
theorem dX0_yOf_27 : decode cX0_yOf 27 = .ok (.iaload, 1) := by decide +kernel
theorem dX0_yOf_28 : decode cX0_yOf 28 = .ok (.iadd, 1) := by decide +kernel
theorem dX0_yOf_29 : decode cX0_yOf 29 = .ok (.ireturn, 1) := by decide +kernel
theorem dX0_pairOf_0 : decode cX0_pairOf 0 = .ok (.iload_n 0, 1) := by decide +kernel
theorem dX0_pairOf_1 : decode cX0_pairOf 1 = .ok (.iload_n 1, 1) := by decide +kernel
theorem dX0_pairOf_2 : decode cX0_pairOf 2 = .ok (.invokestatic 22, 3) := by decide +kernel
theorem dX0_pairOf_5 : decode cX0_pairOf 5 = .ok (.istore_n 2, 1) := by decide +kernel
theorem dX0_pairOf_6 : decode cX0_pairOf 6 = .ok (.iload_n 0, 1) := by decide +kernel
theorem dX0_pairOf_7 : decode cX0_pairOf 7 = .ok (.iload_n 1, 1) := by decide +kernel
theorem dX0_pairOf_8 : decode cX0_pairOf 8 = .ok (.invokestatic 28, 3) := by decide +kernel
theorem dX0_pairOf_11 : decode cX0_pairOf 11 = .ok (.istore_n 3, 1) := by decide +kernel
theorem dX0_pairOf_12 : decode cX0_pairOf 12 = .ok (.iload_n 2, 1) := by decide +kernel
theorem dX0_pairOf_13 : decode cX0_pairOf 13 = .ok (.ifCond .lt 14, 3) := by decide +kernel
theorem dX0_pairOf_16 : decode cX0_pairOf 16 = .ok (.iload_n 2, 1) := by decide +kernel
theorem dX0_pairOf_17 : decode cX0_pairOf 17 = .ok (.iload_n 3, 1) := by decide +kernel
theorem dX0_pairOf_18 : decode cX0_pairOf 18 = .ok (.if_icmp .eq 9, 3) := by decide +kernel
theorem dX0_pairOf_21 : decode cX0_pairOf 21 = .ok (.iload_n 3, 1) := by decide +kernel
theorem dX0_pairOf_22 : decode cX0_pairOf 22 = .ok (.bipush 24, 2) := by decide +kernel
theorem dX0_pairOf_24 : decode cX0_pairOf 24 = .ok (.if_icmp .lt 5, 3) := by decide +kernel
theorem dX0_pairOf_27 : decode cX0_pairOf 27 = .ok (.iconst (-1), 1) := by decide +kernel
theorem dX0_pairOf_28 : decode cX0_pairOf 28 = .ok (.ireturn, 1) := by decide +kernel
theorem dX0_pairOf_29 : decode cX0_pairOf 29 = .ok (.iload_n 3, 1) := by decide +kernel
theorem dX0_pairOf_30 : decode cX0_pairOf 30 = .ok (.iload_n 3, 1) := by decide +kernel
theorem dX0_pairOf_31 : decode cX0_pairOf 31 = .ok (.iconst 1, 1) := by decide +kernel
theorem dX0_pairOf_32 : decode cX0_pairOf 32 = .ok (.isub, 1) := by decide +kernel
theorem dX0_pairOf_33 : decode cX0_pairOf 33 = .ok (.imul, 1) := by decide +kernel
theorem dX0_pairOf_34 : decode cX0_pairOf 34 = .ok (.iconst 2, 1) := by decide +kernel
theorem dX0_pairOf_35 : decode cX0_pairOf 35 = .ok (.idiv, 1) := by decide +kernel
theorem dX0_pairOf_36 : decode cX0_pairOf 36 = .ok (.iload_n 2, 1) := by decide +kernel
theorem dX0_pairOf_37 : decode cX0_pairOf 37 = .ok (.iadd, 1) := by decide +kernel
theorem dX0_pairOf_38 : decode cX0_pairOf 38 = .ok (.ireturn, 1) := by decide +kernel
theorem dX0_trace_0 : decode cX0_trace 0 = .ok (.iload_n 0, 1) := by decide +kernel
theorem dX0_trace_1 : decode cX0_trace 1 = .ok (.invokestatic 31, 3) := by decide +kernel
theorem dX0_trace_4 : decode cX0_trace 4 = .ok (.istore_n 2, 1) := by decide +kernel
theorem dX0_trace_5 : decode cX0_trace 5 = .ok (.iload_n 0, 1) := by decide +kernel
theorem dX0_trace_6 : decode cX0_trace 6 = .ok (.invokestatic 35, 3) := by decide +kernel
theorem dX0_trace_9 : decode cX0_trace 9 = .ok (.istore_n 3, 1) := by decide +kernel
theorem dX0_trace_10 : decode cX0_trace 10 = .ok (.iload_n 1, 1) := by decide +kernel
theorem dX0_trace_11 : decode cX0_trace 11 = .ok (.invokestatic 31, 3) := by decide +kernel
theorem dX0_trace_14 : decode cX0_trace 14 = .ok (.iload_n 2, 1) := by decide +kernel
theorem dX0_trace_15 : decode cX0_trace 15 = .ok (.isub, 1) := by decide +kernel
theorem dX0_trace_16 : decode cX0_trace 16 = .ok (.istore 4, 2) := by decide +kernel
theorem dX0_trace_18 : decode cX0_trace 18 = .ok (.iload_n 1, 1) := by decide +kernel
theorem dX0_trace_19 : decode cX0_trace 19 = .ok (.invokestatic 35, 3) := by decide +kernel
theorem dX0_trace_22 : decode cX0_trace 22 = .ok (.iload_n 3, 1) := by decide +kernel
theorem dX0_trace_23 : decode cX0_trace 23 = .ok (.isub, 1) := by decide +kernel
theorem dX0_trace_24 : decode cX0_trace 24 = .ok (.istore 5, 2) := by decide +kernel
theorem dX0_trace_26 : decode cX0_trace 26 = .ok (.iload 4, 2) := by decide +kernel
theorem dX0_trace_28 : decode cX0_trace 28 = .ok (.invokestatic 38, 3) := by decide +kernel
theorem dX0_trace_31 : decode cX0_trace 31 = .ok (.iload 5, 2) := by decide +kernel
theorem dX0_trace_33 : decode cX0_trace 33 = .ok (.invokestatic 38, 3) := by decide +kernel
theorem dX0_trace_36 : decode cX0_trace 36 = .ok (.invokestatic 28, 3) := by decide +kernel
theorem dX0_trace_39 : decode cX0_trace 39 = .ok (.istore 6, 2) := by decide +kernel
theorem dX0_trace_41 : decode cX0_trace 41 = .ok (.bipush 23, 2) := by decide +kernel
theorem dX0_trace_43 : decode cX0_trace 43 = .ok (.newarray .int, 2) := by decide +kernel
theorem dX0_trace_45 : decode cX0_trace 45 = .ok (.astore 7, 2) := by decide +kernel
theorem dX0_trace_47 : decode cX0_trace 47 = .ok (.iconst 0, 1) := by decide +kernel
theorem dX0_trace_48 : decode cX0_trace 48 = .ok (.istore 8, 2) := by decide +kernel
theorem dX0_trace_50 : decode cX0_trace 50 = .ok (.iconst 0, 1) := by decide +kernel
theorem dX0_trace_51 : decode cX0_trace 51 = .ok (.istore 9, 2) := by decide +kernel
theorem dX0_trace_53 : decode cX0_trace 53 = .ok (.iload 9, 2) := by decide +kernel
theorem dX0_trace_55 : decode cX0_trace 55 = .ok (.iload 6, 2) := by decide +kernel
theorem dX0_trace_57 : decode cX0_trace 57 = .ok (.if_icmp .gt 98, 3) := by decide +kernel
theorem dX0_trace_60 : decode cX0_trace 60 = .ok (.iload 6, 2) := by decide +kernel
theorem dX0_trace_62 : decode cX0_trace 62 = .ok (.ifCond .le 93, 3) := by decide +kernel
theorem dX0_trace_65 : decode cX0_trace 65 = .ok (.iload_n 2, 1) := by decide +kernel
theorem dX0_trace_66 : decode cX0_trace 66 = .ok (.iload 4, 2) := by decide +kernel
theorem dX0_trace_68 : decode cX0_trace 68 = .ok (.iload 9, 2) := by decide +kernel
theorem dX0_trace_70 : decode cX0_trace 70 = .ok (.imul, 1) := by decide +kernel
theorem dX0_trace_71 : decode cX0_trace 71 = .ok (.iload 6, 2) := by decide +kernel
theorem dX0_trace_73 : decode cX0_trace 73 = .ok (.idiv, 1) := by decide +kernel
theorem dX0_trace_74 : decode cX0_trace 74 = .ok (.iadd, 1) := by decide +kernel
theorem dX0_trace_75 : decode cX0_trace 75 = .ok (.bipush 10, 2) := by decide +kernel
theorem dX0_trace_77 : decode cX0_trace 77 = .ok (.idiv, 1) := by decide +kernel
theorem dX0_trace_78 : decode cX0_trace 78 = .ok (.bipush 11, 2) := by decide +kernel
theorem dX0_trace_80 : decode cX0_trace 80 = .ok (.invokestatic 22, 3) := by decide +kernel
theorem dX0_trace_83 : decode cX0_trace 83 = .ok (.istore 10, 2) := by decide +kernel
theorem dX0_trace_85 : decode cX0_trace 85 = .ok (.iload_n 3, 1) := by decide +kernel
theorem dX0_trace_86 : decode cX0_trace 86 = .ok (.iload 5, 2) := by decide +kernel
theorem dX0_trace_88 : decode cX0_trace 88 = .ok (.iload 9, 2) := by decide +kernel
theorem dX0_trace_90 : decode cX0_trace 90 = .ok (.imul, 1) := by decide +kernel
theorem dX0_trace_91 : decode cX0_trace 91 = .ok (.iload 6, 2) := by decide +kernel
theorem dX0_trace_93 : decode cX0_trace 93 = .ok (.idiv, 1) := by decide +kernel
theorem dX0_trace_94 : decode cX0_trace 94 = .ok (.iadd, 1) := by decide +kernel
theorem dX0_trace_95 : decode cX0_trace 95 = .ok (.bipush 10, 2) := by decide +kernel
theorem dX0_trace_97 : decode cX0_trace 97 = .ok (.idiv, 1) := by decide +kernel
theorem dX0_trace_98 : decode cX0_trace 98 = .ok (.bipush 11, 2) := by decide +kernel
theorem dX0_trace_100 : decode cX0_trace 100 = .ok (.invokestatic 22, 3) := by decide +kernel
theorem dX0_trace_103 : decode cX0_trace 103 = .ok (.istore 11, 2) := by decide +kernel
theorem dX0_trace_105 : decode cX0_trace 105 = .ok (.iload 11, 2) := by decide +kernel
theorem dX0_trace_107 : decode cX0_trace 107 = .ok (.bipush 12, 2) := by decide +kernel
theorem dX0_trace_109 : decode cX0_trace 109 = .ok (.imul, 1) := by decide +kernel
theorem dX0_trace_110 : decode cX0_trace 110 = .ok (.iload 10, 2) := by decide +kernel
theorem dX0_trace_112 : decode cX0_trace 112 = .ok (.iadd, 1) := by decide +kernel
theorem dX0_trace_113 : decode cX0_trace 113 = .ok (.istore 12, 2) := by decide +kernel
theorem dX0_trace_115 : decode cX0_trace 115 = .ok (.iload 8, 2) := by decide +kernel
theorem dX0_trace_117 : decode cX0_trace 117 = .ok (.ifCond .eq 15, 3) := by decide +kernel
theorem dX0_trace_120 : decode cX0_trace 120 = .ok (.aload 7, 2) := by decide +kernel
theorem dX0_trace_122 : decode cX0_trace 122 = .ok (.iload 8, 2) := by decide +kernel
theorem dX0_trace_124 : decode cX0_trace 124 = .ok (.iconst 1, 1) := by decide +kernel
theorem dX0_trace_125 : decode cX0_trace 125 = .ok (.isub, 1) := by decide +kernel
theorem dX0_trace_126 : decode cX0_trace 126 = .ok (.iaload, 1) := by decide +kernel
theorem dX0_trace_127 : decode cX0_trace 127 = .ok (.iload 12, 2) := by decide +kernel
theorem dX0_trace_129 : decode cX0_trace 129 = .ok (.if_icmp .eq 20, 3) := by decide +kernel
theorem dX0_trace_132 : decode cX0_trace 132 = .ok (.iload 8, 2) := by decide +kernel
theorem dX0_trace_134 : decode cX0_trace 134 = .ok (.bipush 23, 2) := by decide +kernel
theorem dX0_trace_136 : decode cX0_trace 136 = .ok (.if_icmp .ge 13, 3) := by decide +kernel
theorem dX0_trace_139 : decode cX0_trace 139 = .ok (.aload 7, 2) := by decide +kernel
theorem dX0_trace_141 : decode cX0_trace 141 = .ok (.iload 8, 2) := by decide +kernel
theorem dX0_trace_143 : decode cX0_trace 143 = .ok (.iload 12, 2) := by decide +kernel
theorem dX0_trace_145 : decode cX0_trace 145 = .ok (.iastore, 1) := by decide +kernel
theorem dX0_trace_146 : decode cX0_trace 146 = .ok (.iinc 8 1, 3) := by decide +kernel
theorem dX0_trace_149 : decode cX0_trace 149 = .ok (.iinc 9 1, 3) := by decide +kernel
theorem dX0_trace_152 : decode cX0_trace 152 = .ok (.goto (-99), 3) := by decide +kernel
theorem dX0_trace_155 : decode cX0_trace 155 = .ok (.new 10, 3) := by decide +kernel
theorem dX0_trace_158 : decode cX0_trace 158 = .ok (.dup, 1) := by decide +kernel
theorem dX0_trace_159 : decode cX0_trace 159 = .ok (.iload 4, 2) := by decide +kernel
theorem dX0_trace_161 : decode cX0_trace 161 = .ok (.iload 4, 2) := by decide +kernel
theorem dX0_trace_163 : decode cX0_trace 163 = .ok (.imul, 1) := by decide +kernel
theorem dX0_trace_164 : decode cX0_trace 164 = .ok (.iload 5, 2) := by decide +kernel
theorem dX0_trace_166 : decode cX0_trace 166 = .ok (.iload 5, 2) := by decide +kernel
theorem dX0_trace_168 : decode cX0_trace 168 = .ok (.imul, 1) := by decide +kernel
theorem dX0_trace_169 : decode cX0_trace 169 = .ok (.iadd, 1) := by decide +kernel
theorem dX0_trace_170 : decode cX0_trace 170 = .ok (.invokestatic 41, 3) := by decide +kernel
theorem dX0_trace_173 : decode cX0_trace 173 = .ok (.aload 7, 2) := by decide +kernel
theorem dX0_trace_175 : decode cX0_trace 175 = .ok (.iload 8, 2) := by decide +kernel
theorem dX0_trace_177 : decode cX0_trace 177 = .ok (.invokestatic 44, 3) := by decide +kernel
theorem dX0_trace_180 : decode cX0_trace 180 = .ok (.invokespecial 50, 3) := by decide +kernel
theorem dX0_trace_183 : decode cX0_trace 183 = .ok (.areturn, 1) := by decide +kernel
theorem dX0_rootOf_0 : decode cX0_rootOf 0 = .ok (.iconst 0, 1) := by decide +kernel
theorem dX0_rootOf_1 : decode cX0_rootOf 1 = .ok (.istore_n 1, 1) := by decide +kernel
theorem dX0_rootOf_2 : decode cX0_rootOf 2 = .ok (.iload_n 1, 1) := by decide +kernel
theorem dX0_rootOf_3 : decode cX0_rootOf 3 = .ok (.sipush 240, 3) := by decide +kernel
theorem dX0_rootOf_6 : decode cX0_rootOf 6 = .ok (.if_icmp .ge 20, 3) := by decide +kernel
theorem dX0_rootOf_9 : decode cX0_rootOf 9 = .ok (.iload_n 1, 1) := by decide +kernel
theorem dX0_rootOf_10 : decode cX0_rootOf 10 = .ok (.iconst 1, 1) := by decide +kernel
theorem dX0_rootOf_11 : decode cX0_rootOf 11 = .ok (.iadd, 1) := by decide +kernel
theorem dX0_rootOf_12 : decode cX0_rootOf 12 = .ok (.iload_n 1, 1) := by decide +kernel
theorem dX0_rootOf_13 : decode cX0_rootOf 13 = .ok (.iconst 1, 1) := by decide +kernel
theorem dX0_rootOf_14 : decode cX0_rootOf 14 = .ok (.iadd, 1) := by decide +kernel
theorem dX0_rootOf_15 : decode cX0_rootOf 15 = .ok (.imul, 1) := by decide +kernel
theorem dX0_rootOf_16 : decode cX0_rootOf 16 = .ok (.iload_n 0, 1) := by decide +kernel
theorem dX0_rootOf_17 : decode cX0_rootOf 17 = .ok (.if_icmp .gt 9, 3) := by decide +kernel
theorem dX0_rootOf_20 : decode cX0_rootOf 20 = .ok (.iinc 1 1, 3) := by decide +kernel
theorem dX0_rootOf_23 : decode cX0_rootOf 23 = .ok (.goto (-21), 3) := by decide +kernel
theorem dX0_rootOf_26 : decode cX0_rootOf 26 = .ok (.iload_n 1, 1) := by decide +kernel
theorem dX0_rootOf_27 : decode cX0_rootOf 27 = .ok (.ireturn, 1) := by decide +kernel
theorem dX1_init_0 : decode cX1_init 0 = .ok (.aload_n 0, 1) := by decide +kernel
theorem dX1_init_1 : decode cX1_init 1 = .ok (.invokespecial 3, 3) := by decide +kernel
theorem dX1_init_4 : decode cX1_init 4 = .ok (.aload_n 0, 1) := by decide +kernel
theorem dX1_init_5 : decode cX1_init 5 = .ok (.bipush 12, 2) := by decide +kernel
theorem dX1_init_7 : decode cX1_init 7 = .ok (.putfield 9, 3) := by decide +kernel
theorem dX1_init_10 : decode cX1_init 10 = .ok (.aload_n 0, 1) := by decide +kernel
theorem dX1_init_11 : decode cX1_init 11 = .ok (.iconst 2, 1) := by decide +kernel
theorem dX1_init_12 : decode cX1_init 12 = .ok (.putfield 15, 3) := by decide +kernel
theorem dX1_init_15 : decode cX1_init 15 = .ok (.aload_n 0, 1) := by decide +kernel
theorem dX1_init_16 : decode cX1_init 16 = .ok (.iconst 3, 1) := by decide +kernel
theorem dX1_init_17 : decode cX1_init 17 = .ok (.newarray .int, 2) := by decide +kernel
theorem dX1_init_19 : decode cX1_init 19 = .ok (.dup, 1) := by decide +kernel
theorem dX1_init_20 : decode cX1_init 20 = .ok (.iconst 0, 1) := by decide +kernel
theorem dX1_init_21 : decode cX1_init 21 = .ok (.iconst 1, 1) := by decide +kernel
theorem dX1_init_22 : decode cX1_init 22 = .ok (.iastore, 1) := by decide +kernel
theorem dX1_init_23 : decode cX1_init 23 = .ok (.dup, 1) := by decide +kernel
theorem dX1_init_24 : decode cX1_init 24 = .ok (.iconst 1, 1) := by decide +kernel
theorem dX1_init_25 : decode cX1_init 25 = .ok (.iconst 2, 1) := by decide +kernel
theorem dX1_init_26 : decode cX1_init 26 = .ok (.iastore, 1) := by decide +kernel
theorem dX1_init_27 : decode cX1_init 27 = .ok (.dup, 1) := by decide +kernel
theorem dX1_init_28 : decode cX1_init 28 = .ok (.iconst 2, 1) := by decide +kernel
theorem dX1_init_29 : decode cX1_init 29 = .ok (.iconst 3, 1) := by decide +kernel
theorem dX1_init_30 : decode cX1_init 30 = .ok (.iastore, 1) := by decide +kernel
theorem dX1_init_31 : decode cX1_init 31 = .ok (.putfield 18, 3) := by decide +kernel
theorem dX1_init_34 : decode cX1_init 34 = .ok (.aload_n 0, 1) := by decide +kernel
theorem dX1_init_35 : decode cX1_init 35 = .ok (.iconst 3, 1) := by decide +kernel
theorem dX1_init_36 : decode cX1_init 36 = .ok (.newarray .int, 2) := by decide +kernel
theorem dX1_init_38 : decode cX1_init 38 = .ok (.dup, 1) := by decide +kernel
theorem dX1_init_39 : decode cX1_init 39 = .ok (.iconst 0, 1) := by decide +kernel
theorem dX1_init_40 : decode cX1_init 40 = .ok (.sipush 2000, 3) := by decide +kernel
theorem dX1_init_43 : decode cX1_init 43 = .ok (.iastore, 1) := by decide +kernel
theorem dX1_init_44 : decode cX1_init 44 = .ok (.dup, 1) := by decide +kernel
theorem dX1_init_45 : decode cX1_init 45 = .ok (.iconst 1, 1) := by decide +kernel
theorem dX1_init_46 : decode cX1_init 46 = .ok (.sipush 2000, 3) := by decide +kernel
theorem dX1_init_49 : decode cX1_init 49 = .ok (.iastore, 1) := by decide +kernel
theorem dX1_init_50 : decode cX1_init 50 = .ok (.dup, 1) := by decide +kernel
theorem dX1_init_51 : decode cX1_init 51 = .ok (.iconst 2, 1) := by decide +kernel
theorem dX1_init_52 : decode cX1_init 52 = .ok (.sipush 2000, 3) := by decide +kernel
theorem dX1_init_55 : decode cX1_init 55 = .ok (.iastore, 1) := by decide +kernel
theorem dX1_init_56 : decode cX1_init 56 = .ok (.putfield 22, 3) := by decide +kernel
theorem dX1_init_59 : decode cX1_init 59 = .ok (.aload_n 0, 1) := by decide +kernel
theorem dX1_init_60 : decode cX1_init 60 = .ok (.iconst 3, 1) := by decide +kernel
theorem dX1_init_61 : decode cX1_init 61 = .ok (.newarray .int, 2) := by decide +kernel
theorem dX1_init_63 : decode cX1_init 63 = .ok (.dup, 1) := by decide +kernel
theorem dX1_init_64 : decode cX1_init 64 = .ok (.iconst 0, 1) := by decide +kernel
theorem dX1_init_65 : decode cX1_init 65 = .ok (.iconst 1, 1) := by decide +kernel
theorem dX1_init_66 : decode cX1_init 66 = .ok (.iastore, 1) := by decide +kernel
theorem dX1_init_67 : decode cX1_init 67 = .ok (.dup, 1) := by decide +kernel
theorem dX1_init_68 : decode cX1_init 68 = .ok (.iconst 1, 1) := by decide +kernel
theorem dX1_init_69 : decode cX1_init 69 = .ok (.iconst 1, 1) := by decide +kernel
theorem dX1_init_70 : decode cX1_init 70 = .ok (.iastore, 1) := by decide +kernel
theorem dX1_init_71 : decode cX1_init 71 = .ok (.dup, 1) := by decide +kernel
theorem dX1_init_72 : decode cX1_init 72 = .ok (.iconst 2, 1) := by decide +kernel
theorem dX1_init_73 : decode cX1_init 73 = .ok (.iconst 2, 1) := by decide +kernel
theorem dX1_init_74 : decode cX1_init 74 = .ok (.iastore, 1) := by decide +kernel
theorem dX1_init_75 : decode cX1_init 75 = .ok (.putfield 25, 3) := by decide +kernel
theorem dX1_init_78 : decode cX1_init 78 = .ok (.aload_n 0, 1) := by decide +kernel
theorem dX1_init_79 : decode cX1_init 79 = .ok (.sipush 201, 3) := by decide +kernel
theorem dX1_init_82 : decode cX1_init 82 = .ok (.newarray .int, 2) := by decide +kernel
theorem dX1_init_84 : decode cX1_init 84 = .ok (.putfield 28, 3) := by decide +kernel
theorem dX1_init_87 : decode cX1_init 87 = .ok (.aload_n 0, 1) := by decide +kernel
theorem dX1_init_88 : decode cX1_init 88 = .ok (.sipush 201, 3) := by decide +kernel
theorem dX1_init_91 : decode cX1_init 91 = .ok (.newarray .int, 2) := by decide +kernel
theorem dX1_init_93 : decode cX1_init 93 = .ok (.putfield 31, 3) := by decide +kernel
theorem dX1_init_96 : decode cX1_init 96 = .ok (.aload_n 0, 1) := by decide +kernel
theorem dX1_init_97 : decode cX1_init 97 = .ok (.sipush 201, 3) := by decide +kernel
theorem dX1_init_100 : decode cX1_init 100 = .ok (.newarray .int, 2) := by decide +kernel
theorem dX1_init_102 : decode cX1_init 102 = .ok (.putfield 34, 3) := by decide +kernel
theorem dX1_init_105 : decode cX1_init 105 = .ok (.aload_n 0, 1) := by decide +kernel
theorem dX1_init_106 : decode cX1_init 106 = .ok (.sipush 144, 3) := by decide +kernel
theorem dX1_init_109 : decode cX1_init 109 = .ok (.newarray .int, 2) := by decide +kernel
theorem dX1_init_111 : decode cX1_init 111 = .ok (.putfield 37, 3) := by decide +kernel
theorem dX1_init_114 : decode cX1_init 114 = .ok (.aload_n 0, 1) := by decide +kernel
theorem dX1_init_115 : decode cX1_init 115 = .ok (.sipush 144, 3) := by decide +kernel
theorem dX1_init_118 : decode cX1_init 118 = .ok (.newarray .int, 2) := by decide +kernel
theorem dX1_init_120 : decode cX1_init 120 = .ok (.putfield 40, 3) := by decide +kernel
theorem dX1_init_123 : decode cX1_init 123 = .ok (.aload_n 0, 1) := by decide +kernel
theorem dX1_init_124 : decode cX1_init 124 = .ok (.sipush 144, 3) := by decide +kernel
theorem dX1_init_127 : decode cX1_init 127 = .ok (.newarray .int, 2) := by decide +kernel
theorem dX1_init_129 : decode cX1_init 129 = .ok (.putfield 43, 3) := by decide +kernel
theorem dX1_init_132 : decode cX1_init 132 = .ok (.aload_n 0, 1) := by decide +kernel
theorem dX1_init_133 : decode cX1_init 133 = .ok (.sipush 276, 3) := by decide +kernel
theorem dX1_init_136 : decode cX1_init 136 = .ok (.newarray .int, 2) := by decide +kernel
theorem dX1_init_138 : decode cX1_init 138 = .ok (.putfield 46, 3) := by decide +kernel
theorem dX1_init_141 : decode cX1_init 141 = .ok (.aload_n 0, 1) := by decide +kernel
theorem dX1_init_142 : decode cX1_init 142 = .ok (.aload_n 1, 1) := by decide +kernel
theorem dX1_init_143 : decode cX1_init 143 = .ok (.putfield 49, 3) := by decide +kernel
theorem dX1_init_146 : decode cX1_init 146 = .ok (.return_, 1) := by decide +kernel
theorem dX1_copyFrom_0 : decode cX1_copyFrom 0 = .ok (.aload_n 0, 1) := by decide +kernel
theorem dX1_copyFrom_1 : decode cX1_copyFrom 1 = .ok (.aload_n 1, 1) := by decide +kernel
theorem dX1_copyFrom_2 : decode cX1_copyFrom 2 = .ok (.getfield 9, 3) := by decide +kernel
theorem dX1_copyFrom_5 : decode cX1_copyFrom 5 = .ok (.putfield 9, 3) := by decide +kernel
theorem dX1_copyFrom_8 : decode cX1_copyFrom 8 = .ok (.aload_n 0, 1) := by decide +kernel
theorem dX1_copyFrom_9 : decode cX1_copyFrom 9 = .ok (.aload_n 1, 1) := by decide +kernel
theorem dX1_copyFrom_10 : decode cX1_copyFrom 10 = .ok (.getfield 15, 3) := by decide +kernel
theorem dX1_copyFrom_13 : decode cX1_copyFrom 13 = .ok (.putfield 15, 3) := by decide +kernel
theorem dX1_copyFrom_16 : decode cX1_copyFrom 16 = .ok (.aload_n 0, 1) := by decide +kernel
theorem dX1_copyFrom_17 : decode cX1_copyFrom 17 = .ok (.aload_n 1, 1) := by decide +kernel
theorem dX1_copyFrom_18 : decode cX1_copyFrom 18 = .ok (.getfield 53, 3) := by decide +kernel
theorem dX1_copyFrom_21 : decode cX1_copyFrom 21 = .ok (.putfield 53, 3) := by decide +kernel
theorem dX1_copyFrom_24 : decode cX1_copyFrom 24 = .ok (.aload_n 0, 1) := by decide +kernel
theorem dX1_copyFrom_25 : decode cX1_copyFrom 25 = .ok (.aload_n 1, 1) := by decide +kernel
theorem dX1_copyFrom_26 : decode cX1_copyFrom 26 = .ok (.getfield 56, 3) := by decide +kernel
theorem dX1_copyFrom_29 : decode cX1_copyFrom 29 = .ok (.putfield 56, 3) := by decide +kernel
theorem dX1_copyFrom_32 : decode cX1_copyFrom 32 = .ok (.aload_n 0, 1) := by decide +kernel
theorem dX1_copyFrom_33 : decode cX1_copyFrom 33 = .ok (.aload_n 1, 1) := by decide +kernel
theorem dX1_copyFrom_34 : decode cX1_copyFrom 34 = .ok (.getfield 59, 3) := by decide +kernel
theorem dX1_copyFrom_37 : decode cX1_copyFrom 37 = .ok (.putfield 59, 3) := by decide +kernel
theorem dX1_copyFrom_40 : decode cX1_copyFrom 40 = .ok (.aload_n 0, 1) := by decide +kernel
theorem dX1_copyFrom_41 : decode cX1_copyFrom 41 = .ok (.aload_n 1, 1) := by decide +kernel
theorem dX1_copyFrom_42 : decode cX1_copyFrom 42 = .ok (.getfield 62, 3) := by decide +kernel
theorem dX1_copyFrom_45 : decode cX1_copyFrom 45 = .ok (.putfield 62, 3) := by decide +kernel
theorem dX1_copyFrom_48 : decode cX1_copyFrom 48 = .ok (.aload_n 0, 1) := by decide +kernel
theorem dX1_copyFrom_49 : decode cX1_copyFrom 49 = .ok (.aload_n 1, 1) := by decide +kernel
theorem dX1_copyFrom_50 : decode cX1_copyFrom 50 = .ok (.getfield 65, 3) := by decide +kernel
theorem dX1_copyFrom_53 : decode cX1_copyFrom 53 = .ok (.putfield 65, 3) := by decide +kernel
theorem dX1_copyFrom_56 : decode cX1_copyFrom 56 = .ok (.aload_n 0, 1) := by decide +kernel
theorem dX1_copyFrom_57 : decode cX1_copyFrom 57 = .ok (.aload_n 1, 1) := by decide +kernel
theorem dX1_copyFrom_58 : decode cX1_copyFrom 58 = .ok (.getfield 68, 3) := by decide +kernel
theorem dX1_copyFrom_61 : decode cX1_copyFrom 61 = .ok (.putfield 68, 3) := by decide +kernel
theorem dX1_copyFrom_64 : decode cX1_copyFrom 64 = .ok (.aload_n 1, 1) := by decide +kernel
theorem dX1_copyFrom_65 : decode cX1_copyFrom 65 = .ok (.getfield 18, 3) := by decide +kernel
theorem dX1_copyFrom_68 : decode cX1_copyFrom 68 = .ok (.iconst 0, 1) := by decide +kernel
theorem dX1_copyFrom_69 : decode cX1_copyFrom 69 = .ok (.aload_n 0, 1) := by decide +kernel
theorem dX1_copyFrom_70 : decode cX1_copyFrom 70 = .ok (.getfield 18, 3) := by decide +kernel
theorem dX1_copyFrom_73 : decode cX1_copyFrom 73 = .ok (.iconst 0, 1) := by decide +kernel
theorem dX1_copyFrom_74 : decode cX1_copyFrom 74 = .ok (.iconst 3, 1) := by decide +kernel
theorem dX1_copyFrom_75 : decode cX1_copyFrom 75 = .ok (.invokestatic 71, 3) := by decide +kernel
theorem dX1_copyFrom_78 : decode cX1_copyFrom 78 = .ok (.aload_n 1, 1) := by decide +kernel
theorem dX1_copyFrom_79 : decode cX1_copyFrom 79 = .ok (.getfield 22, 3) := by decide +kernel
theorem dX1_copyFrom_82 : decode cX1_copyFrom 82 = .ok (.iconst 0, 1) := by decide +kernel
theorem dX1_copyFrom_83 : decode cX1_copyFrom 83 = .ok (.aload_n 0, 1) := by decide +kernel
theorem dX1_copyFrom_84 : decode cX1_copyFrom 84 = .ok (.getfield 22, 3) := by decide +kernel
theorem dX1_copyFrom_87 : decode cX1_copyFrom 87 = .ok (.iconst 0, 1) := by decide +kernel
theorem dX1_copyFrom_88 : decode cX1_copyFrom 88 = .ok (.iconst 3, 1) := by decide +kernel
theorem dX1_copyFrom_89 : decode cX1_copyFrom 89 = .ok (.invokestatic 71, 3) := by decide +kernel
theorem dX1_copyFrom_92 : decode cX1_copyFrom 92 = .ok (.aload_n 1, 1) := by decide +kernel
theorem dX1_copyFrom_93 : decode cX1_copyFrom 93 = .ok (.getfield 25, 3) := by decide +kernel
theorem dX1_copyFrom_96 : decode cX1_copyFrom 96 = .ok (.iconst 0, 1) := by decide +kernel
theorem dX1_copyFrom_97 : decode cX1_copyFrom 97 = .ok (.aload_n 0, 1) := by decide +kernel
theorem dX1_copyFrom_98 : decode cX1_copyFrom 98 = .ok (.getfield 25, 3) := by decide +kernel
theorem dX1_copyFrom_101 : decode cX1_copyFrom 101 = .ok (.iconst 0, 1) := by decide +kernel
theorem dX1_copyFrom_102 : decode cX1_copyFrom 102 = .ok (.iconst 3, 1) := by decide +kernel
theorem dX1_copyFrom_103 : decode cX1_copyFrom 103 = .ok (.invokestatic 71, 3) := by decide +kernel
theorem dX1_copyFrom_106 : decode cX1_copyFrom 106 = .ok (.aload_n 1, 1) := by decide +kernel
theorem dX1_copyFrom_107 : decode cX1_copyFrom 107 = .ok (.getfield 28, 3) := by decide +kernel
theorem dX1_copyFrom_110 : decode cX1_copyFrom 110 = .ok (.iconst 0, 1) := by decide +kernel
theorem dX1_copyFrom_111 : decode cX1_copyFrom 111 = .ok (.aload_n 0, 1) := by decide +kernel
theorem dX1_copyFrom_112 : decode cX1_copyFrom 112 = .ok (.getfield 28, 3) := by decide +kernel
theorem dX1_copyFrom_115 : decode cX1_copyFrom 115 = .ok (.iconst 0, 1) := by decide +kernel
theorem dX1_copyFrom_116 : decode cX1_copyFrom 116 = .ok (.aload_n 0, 1) := by decide +kernel
theorem dX1_copyFrom_117 : decode cX1_copyFrom 117 = .ok (.getfield 68, 3) := by decide +kernel
theorem dX1_copyFrom_120 : decode cX1_copyFrom 120 = .ok (.invokestatic 71, 3) := by decide +kernel
theorem dX1_copyFrom_123 : decode cX1_copyFrom 123 = .ok (.aload_n 1, 1) := by decide +kernel
theorem dX1_copyFrom_124 : decode cX1_copyFrom 124 = .ok (.getfield 31, 3) := by decide +kernel
theorem dX1_copyFrom_127 : decode cX1_copyFrom 127 = .ok (.iconst 0, 1) := by decide +kernel
theorem dX1_copyFrom_128 : decode cX1_copyFrom 128 = .ok (.aload_n 0, 1) := by decide +kernel
theorem dX1_copyFrom_129 : decode cX1_copyFrom 129 = .ok (.getfield 31, 3) := by decide +kernel
theorem dX1_copyFrom_132 : decode cX1_copyFrom 132 = .ok (.iconst 0, 1) := by decide +kernel
theorem dX1_copyFrom_133 : decode cX1_copyFrom 133 = .ok (.aload_n 0, 1) := by decide +kernel
theorem dX1_copyFrom_134 : decode cX1_copyFrom 134 = .ok (.getfield 68, 3) := by decide +kernel
theorem dX1_copyFrom_137 : decode cX1_copyFrom 137 = .ok (.invokestatic 71, 3) := by decide +kernel
theorem dX1_copyFrom_140 : decode cX1_copyFrom 140 = .ok (.aload_n 1, 1) := by decide +kernel
theorem dX1_copyFrom_141 : decode cX1_copyFrom 141 = .ok (.getfield 34, 3) := by decide +kernel
theorem dX1_copyFrom_144 : decode cX1_copyFrom 144 = .ok (.iconst 0, 1) := by decide +kernel
theorem dX1_copyFrom_145 : decode cX1_copyFrom 145 = .ok (.aload_n 0, 1) := by decide +kernel
theorem dX1_copyFrom_146 : decode cX1_copyFrom 146 = .ok (.getfield 34, 3) := by decide +kernel
theorem dX1_copyFrom_149 : decode cX1_copyFrom 149 = .ok (.iconst 0, 1) := by decide +kernel
theorem dX1_copyFrom_150 : decode cX1_copyFrom 150 = .ok (.aload_n 0, 1) := by decide +kernel
theorem dX1_copyFrom_151 : decode cX1_copyFrom 151 = .ok (.getfield 68, 3) := by decide +kernel
theorem dX1_copyFrom_154 : decode cX1_copyFrom 154 = .ok (.invokestatic 71, 3) := by decide +kernel
theorem dX1_copyFrom_157 : decode cX1_copyFrom 157 = .ok (.aload_n 1, 1) := by decide +kernel
theorem dX1_copyFrom_158 : decode cX1_copyFrom 158 = .ok (.getfield 37, 3) := by decide +kernel
theorem dX1_copyFrom_161 : decode cX1_copyFrom 161 = .ok (.iconst 0, 1) := by decide +kernel
theorem dX1_copyFrom_162 : decode cX1_copyFrom 162 = .ok (.aload_n 0, 1) := by decide +kernel
theorem dX1_copyFrom_163 : decode cX1_copyFrom 163 = .ok (.getfield 37, 3) := by decide +kernel
theorem dX1_copyFrom_166 : decode cX1_copyFrom 166 = .ok (.iconst 0, 1) := by decide +kernel
theorem dX1_copyFrom_167 : decode cX1_copyFrom 167 = .ok (.sipush 144, 3) := by decide +kernel
theorem dX1_copyFrom_170 : decode cX1_copyFrom 170 = .ok (.invokestatic 71, 3) := by decide +kernel
theorem dX1_copyFrom_173 : decode cX1_copyFrom 173 = .ok (.aload_n 1, 1) := by decide +kernel
theorem dX1_copyFrom_174 : decode cX1_copyFrom 174 = .ok (.getfield 40, 3) := by decide +kernel
theorem dX1_copyFrom_177 : decode cX1_copyFrom 177 = .ok (.iconst 0, 1) := by decide +kernel
theorem dX1_copyFrom_178 : decode cX1_copyFrom 178 = .ok (.aload_n 0, 1) := by decide +kernel
theorem dX1_copyFrom_179 : decode cX1_copyFrom 179 = .ok (.getfield 40, 3) := by decide +kernel
theorem dX1_copyFrom_182 : decode cX1_copyFrom 182 = .ok (.iconst 0, 1) := by decide +kernel
theorem dX1_copyFrom_183 : decode cX1_copyFrom 183 = .ok (.sipush 144, 3) := by decide +kernel
theorem dX1_copyFrom_186 : decode cX1_copyFrom 186 = .ok (.invokestatic 71, 3) := by decide +kernel
theorem dX1_copyFrom_189 : decode cX1_copyFrom 189 = .ok (.aload_n 1, 1) := by decide +kernel
theorem dX1_copyFrom_190 : decode cX1_copyFrom 190 = .ok (.getfield 43, 3) := by decide +kernel
theorem dX1_copyFrom_193 : decode cX1_copyFrom 193 = .ok (.iconst 0, 1) := by decide +kernel
theorem dX1_copyFrom_194 : decode cX1_copyFrom 194 = .ok (.aload_n 0, 1) := by decide +kernel
theorem dX1_copyFrom_195 : decode cX1_copyFrom 195 = .ok (.getfield 43, 3) := by decide +kernel
theorem dX1_copyFrom_198 : decode cX1_copyFrom 198 = .ok (.iconst 0, 1) := by decide +kernel
theorem dX1_copyFrom_199 : decode cX1_copyFrom 199 = .ok (.sipush 144, 3) := by decide +kernel
theorem dX1_copyFrom_202 : decode cX1_copyFrom 202 = .ok (.invokestatic 71, 3) := by decide +kernel
theorem dX1_copyFrom_205 : decode cX1_copyFrom 205 = .ok (.aload_n 1, 1) := by decide +kernel
theorem dX1_copyFrom_206 : decode cX1_copyFrom 206 = .ok (.getfield 46, 3) := by decide +kernel
theorem dX1_copyFrom_209 : decode cX1_copyFrom 209 = .ok (.iconst 0, 1) := by decide +kernel
theorem dX1_copyFrom_210 : decode cX1_copyFrom 210 = .ok (.aload_n 0, 1) := by decide +kernel
theorem dX1_copyFrom_211 : decode cX1_copyFrom 211 = .ok (.getfield 46, 3) := by decide +kernel
theorem dX1_copyFrom_214 : decode cX1_copyFrom 214 = .ok (.iconst 0, 1) := by decide +kernel
theorem dX1_copyFrom_215 : decode cX1_copyFrom 215 = .ok (.sipush 276, 3) := by decide +kernel
theorem dX1_copyFrom_218 : decode cX1_copyFrom 218 = .ok (.invokestatic 71, 3) := by decide +kernel
theorem dX1_copyFrom_221 : decode cX1_copyFrom 221 = .ok (.return_, 1) := by decide +kernel
theorem dX1_lineBetween_0 : decode cX1_lineBetween 0 = .ok (.iload_n 1, 1) := by decide +kernel
theorem dX1_lineBetween_1 : decode cX1_lineBetween 1 = .ok (.aload_n 0, 1) := by decide +kernel
theorem dX1_lineBetween_2 : decode cX1_lineBetween 2 = .ok (.getfield 15, 3) := by decide +kernel
theorem dX1_lineBetween_5 : decode cX1_lineBetween 5 = .ok (.imul, 1) := by decide +kernel
theorem dX1_lineBetween_6 : decode cX1_lineBetween 6 = .ok (.iload_n 2, 1) := by decide +kernel
theorem dX1_lineBetween_7 : decode cX1_lineBetween 7 = .ok (.aload_n 0, 1) := by decide +kernel
theorem dX1_lineBetween_8 : decode cX1_lineBetween 8 = .ok (.getfield 15, 3) := by decide +kernel
theorem dX1_lineBetween_11 : decode cX1_lineBetween 11 = .ok (.imul, 1) := by decide +kernel
theorem dX1_lineBetween_12 : decode cX1_lineBetween 12 = .ok (.invokestatic 77, 3) := by decide +kernel
theorem dX1_lineBetween_15 : decode cX1_lineBetween 15 = .ok (.istore_n 3, 1) := by decide +kernel
theorem dX1_lineBetween_16 : decode cX1_lineBetween 16 = .ok (.iload_n 3, 1) := by decide +kernel
theorem dX1_lineBetween_17 : decode cX1_lineBetween 17 = .ok (.iconst (-1), 1) := by decide +kernel
theorem dX1_lineBetween_18 : decode cX1_lineBetween 18 = .ok (.if_icmp .ne 15, 3) := by decide +kernel
theorem dX1_lineBetween_21 : decode cX1_lineBetween 21 = .ok (.new 78, 3) := by decide +kernel
theorem dX1_lineBetween_24 : decode cX1_lineBetween 24 = .ok (.dup, 1) := by decide +kernel
theorem dX1_lineBetween_25 : decode cX1_lineBetween 25 = .ok (.iconst 0, 1) := by decide +kernel
theorem dX1_lineBetween_26 : decode cX1_lineBetween 26 = .ok (.iconst 0, 1) := by decide +kernel
theorem dX1_lineBetween_27 : decode cX1_lineBetween 27 = .ok (.newarray .int, 2) := by decide +kernel
theorem dX1_lineBetween_29 : decode cX1_lineBetween 29 = .ok (.invokespecial 83, 3) := by decide +kernel
theorem dX1_lineBetween_32 : decode cX1_lineBetween 32 = .ok (.areturn, 1) := by decide +kernel
theorem dX1_lineBetween_33 : decode cX1_lineBetween 33 = .ok (.aload_n 0, 1) := by decide +kernel
theorem dX1_lineBetween_34 : decode cX1_lineBetween 34 = .ok (.getfield 49, 3) := by decide +kernel
theorem dX1_lineBetween_37 : decode cX1_lineBetween 37 = .ok (.iload_n 3, 1) := by decide +kernel
theorem dX1_lineBetween_38 : decode cX1_lineBetween 38 = .ok (.aaload, 1) := by decide +kernel
theorem dX1_lineBetween_39 : decode cX1_lineBetween 39 = .ok (.astore 4, 2) := by decide +kernel
theorem dX1_lineBetween_41 : decode cX1_lineBetween 41 = .ok (.aload 4, 2) := by decide +kernel
theorem dX1_lineBetween_43 : decode cX1_lineBetween 43 = .ok (.ifnonnull 36, 3) := by decide +kernel
theorem dX1_lineBetween_46 : decode cX1_lineBetween 46 = .ok (.iload_n 1, 1) := by decide +kernel
theorem dX1_lineBetween_47 : decode cX1_lineBetween 47 = .ok (.iload_n 2, 1) := by decide +kernel
theorem dX1_lineBetween_48 : decode cX1_lineBetween 48 = .ok (.invokestatic 86, 3) := by decide +kernel
theorem dX1_lineBetween_51 : decode cX1_lineBetween 51 = .ok (.aload_n 0, 1) := by decide +kernel
theorem dX1_lineBetween_52 : decode cX1_lineBetween 52 = .ok (.getfield 15, 3) := by decide +kernel
theorem dX1_lineBetween_55 : decode cX1_lineBetween 55 = .ok (.imul, 1) := by decide +kernel
theorem dX1_lineBetween_56 : decode cX1_lineBetween 56 = .ok (.iload_n 1, 1) := by decide +kernel
theorem dX1_lineBetween_57 : decode cX1_lineBetween 57 = .ok (.iload_n 2, 1) := by decide +kernel
theorem dX1_lineBetween_58 : decode cX1_lineBetween 58 = .ok (.invokestatic 91, 3) := by decide +kernel
theorem dX1_lineBetween_61 : decode cX1_lineBetween 61 = .ok (.aload_n 0, 1) := by decide +kernel
theorem dX1_lineBetween_62 : decode cX1_lineBetween 62 = .ok (.getfield 15, 3) := by decide +kernel
theorem dX1_lineBetween_65 : decode cX1_lineBetween 65 = .ok (.imul, 1) := by decide +kernel
theorem dX1_lineBetween_66 : decode cX1_lineBetween 66 = .ok (.invokestatic 94, 3) := by decide +kernel
theorem dX1_lineBetween_69 : decode cX1_lineBetween 69 = .ok (.astore 4, 2) := by decide +kernel
theorem dX1_lineBetween_71 : decode cX1_lineBetween 71 = .ok (.aload_n 0, 1) := by decide +kernel
theorem dX1_lineBetween_72 : decode cX1_lineBetween 72 = .ok (.getfield 49, 3) := by decide +kernel
theorem dX1_lineBetween_75 : decode cX1_lineBetween 75 = .ok (.iload_n 3, 1) := by decide +kernel
theorem dX1_lineBetween_76 : decode cX1_lineBetween 76 = .ok (.aload 4, 2) := by decide +kernel
theorem dX1_lineBetween_78 : decode cX1_lineBetween 78 = .ok (.aastore, 1) := by decide +kernel
theorem dX1_lineBetween_79 : decode cX1_lineBetween 79 = .ok (.aload 4, 2) := by decide +kernel
theorem dX1_lineBetween_81 : decode cX1_lineBetween 81 = .ok (.areturn, 1) := by decide +kernel
theorem dX1_timesLying_0 : decode cX1_timesLying 0 = .ok (.iload_n 1, 1) := by decide +kernel
theorem dX1_timesLying_1 : decode cX1_timesLying 1 = .ok (.aload_n 0, 1) := by decide +kernel
theorem dX1_timesLying_2 : decode cX1_timesLying 2 = .ok (.getfield 15, 3) := by decide +kernel
theorem dX1_timesLying_5 : decode cX1_timesLying 5 = .ok (.imul, 1) := by decide +kernel
theorem dX1_timesLying_6 : decode cX1_timesLying 6 = .ok (.iload_n 2, 1) := by decide +kernel
theorem dX1_timesLying_7 : decode cX1_timesLying 7 = .ok (.aload_n 0, 1) := by decide +kernel
theorem dX1_timesLying_8 : decode cX1_timesLying 8 = .ok (.getfield 15, 3) := by decide +kernel
theorem dX1_timesLying_11 : decode cX1_timesLying 11 = .ok (.imul, 1) := by decide +kernel
theorem dX1_timesLying_12 : decode cX1_timesLying 12 = .ok (.invokestatic 77, 3) := by decide +kernel
theorem dX1_timesLying_15 : decode cX1_timesLying 15 = .ok (.istore_n 3, 1) := by decide +kernel
theorem dX1_timesLying_16 : decode cX1_timesLying 16 = .ok (.iload_n 3, 1) := by decide +kernel
theorem dX1_timesLying_17 : decode cX1_timesLying 17 = .ok (.iconst (-1), 1) := by decide +kernel
theorem dX1_timesLying_18 : decode cX1_timesLying 18 = .ok (.if_icmp .ne 7, 3) := by decide +kernel
theorem dX1_timesLying_21 : decode cX1_timesLying 21 = .ok (.iconst 0, 1) := by decide +kernel
theorem dX1_timesLying_22 : decode cX1_timesLying 22 = .ok (.goto 9, 3) := by decide +kernel
theorem dX1_timesLying_25 : decode cX1_timesLying 25 = .ok (.aload_n 0, 1) := by decide +kernel
theorem dX1_timesLying_26 : decode cX1_timesLying 26 = .ok (.getfield 46, 3) := by decide +kernel
theorem dX1_timesLying_29 : decode cX1_timesLying 29 = .ok (.iload_n 3, 1) := by decide +kernel
theorem dX1_timesLying_30 : decode cX1_timesLying 30 = .ok (.iaload, 1) := by decide +kernel
theorem dX1_timesLying_31 : decode cX1_timesLying 31 = .ok (.ireturn, 1) := by decide +kernel
theorem dX1_refusal_0 : decode cX1_refusal 0 = .ok (.iload_n 1, 1) := by decide +kernel
theorem dX1_refusal_1 : decode cX1_refusal 1 = .ok (.aload_n 0, 1) := by decide +kernel
theorem dX1_refusal_2 : decode cX1_refusal 2 = .ok (.getfield 53, 3) := by decide +kernel
theorem dX1_refusal_5 : decode cX1_refusal 5 = .ok (.if_icmp .ne 5, 3) := by decide +kernel
theorem dX1_refusal_8 : decode cX1_refusal 8 = .ok (.iconst 1, 1) := by decide +kernel
theorem dX1_refusal_9 : decode cX1_refusal 9 = .ok (.ireturn, 1) := by decide +kernel
theorem dX1_refusal_10 : decode cX1_refusal 10 = .ok (.iload_n 1, 1) := by decide +kernel
theorem dX1_refusal_11 : decode cX1_refusal 11 = .ok (.aload_n 0, 1) := by decide +kernel
theorem dX1_refusal_12 : decode cX1_refusal 12 = .ok (.getfield 53, 3) := by decide +kernel
theorem dX1_refusal_15 : decode cX1_refusal 15 = .ok (.isub, 1) := by decide +kernel
theorem dX1_refusal_16 : decode cX1_refusal 16 = .ok (.invokestatic 98, 3) := by decide +kernel
theorem dX1_refusal_19 : decode cX1_refusal 19 = .ok (.istore_n 2, 1) := by decide +kernel
theorem dX1_refusal_20 : decode cX1_refusal 20 = .ok (.iload_n 2, 1) := by decide +kernel
theorem dX1_refusal_21 : decode cX1_refusal 21 = .ok (.aload_n 0, 1) := by decide +kernel
theorem dX1_refusal_22 : decode cX1_refusal 22 = .ok (.getfield 9, 3) := by decide +kernel
theorem dX1_refusal_25 : decode cX1_refusal 25 = .ok (.iload_n 2, 1) := by decide +kernel
theorem dX1_refusal_26 : decode cX1_refusal 26 = .ok (.isub, 1) := by decide +kernel
theorem dX1_refusal_27 : decode cX1_refusal 27 = .ok (.invokestatic 86, 3) := by decide +kernel
theorem dX1_refusal_30 : decode cX1_refusal 30 = .ok (.aload_n 0, 1) := by decide +kernel
theorem dX1_refusal_31 : decode cX1_refusal 31 = .ok (.getfield 25, 3) := by decide +kernel
theorem dX1_refusal_34 : decode cX1_refusal 34 = .ok (.iconst 0, 1) := by decide +kernel
theorem dX1_refusal_35 : decode cX1_refusal 35 = .ok (.iaload, 1) := by decide +kernel
theorem dX1_refusal_36 : decode cX1_refusal 36 = .ok (.if_icmp .ge 5, 3) := by decide +kernel
theorem dX1_refusal_39 : decode cX1_refusal 39 = .ok (.iconst 2, 1) := by decide +kernel
theorem dX1_refusal_40 : decode cX1_refusal 40 = .ok (.ireturn, 1) := by decide +kernel
theorem dX1_refusal_41 : decode cX1_refusal 41 = .ok (.aload_n 0, 1) := by decide +kernel
theorem dX1_refusal_42 : decode cX1_refusal 42 = .ok (.aload_n 0, 1) := by decide +kernel
theorem dX1_refusal_43 : decode cX1_refusal 43 = .ok (.getfield 53, 3) := by decide +kernel
theorem dX1_refusal_46 : decode cX1_refusal 46 = .ok (.iload_n 1, 1) := by decide +kernel
theorem dX1_refusal_47 : decode cX1_refusal 47 = .ok (.invokevirtual 102, 3) := by decide +kernel
theorem dX1_refusal_50 : decode cX1_refusal 50 = .ok (.aload_n 0, 1) := by decide +kernel
theorem dX1_refusal_51 : decode cX1_refusal 51 = .ok (.getfield 25, 3) := by decide +kernel
theorem dX1_refusal_54 : decode cX1_refusal 54 = .ok (.iconst 1, 1) := by decide +kernel
theorem dX1_refusal_55 : decode cX1_refusal 55 = .ok (.iaload, 1) := by decide +kernel
theorem dX1_refusal_56 : decode cX1_refusal 56 = .ok (.if_icmp .lt 5, 3) := by decide +kernel
theorem dX1_refusal_59 : decode cX1_refusal 59 = .ok (.iconst 3, 1) := by decide +kernel
theorem dX1_refusal_60 : decode cX1_refusal 60 = .ok (.ireturn, 1) := by decide +kernel
theorem dX1_refusal_61 : decode cX1_refusal 61 = .ok (.aload_n 0, 1) := by decide +kernel
theorem dX1_refusal_62 : decode cX1_refusal 62 = .ok (.getfield 22, 3) := by decide +kernel
theorem dX1_refusal_65 : decode cX1_refusal 65 = .ok (.aload_n 0, 1) := by decide +kernel
theorem dX1_refusal_66 : decode cX1_refusal 66 = .ok (.getfield 56, 3) := by decide +kernel
theorem dX1_refusal_69 : decode cX1_refusal 69 = .ok (.iaload, 1) := by decide +kernel
theorem dX1_refusal_70 : decode cX1_refusal 70 = .ok (.aload_n 0, 1) := by decide +kernel
theorem dX1_refusal_71 : decode cX1_refusal 71 = .ok (.aload_n 0, 1) := by decide +kernel
theorem dX1_refusal_72 : decode cX1_refusal 72 = .ok (.getfield 53, 3) := by decide +kernel
theorem dX1_refusal_75 : decode cX1_refusal 75 = .ok (.iload_n 1, 1) := by decide +kernel
theorem dX1_refusal_76 : decode cX1_refusal 76 = .ok (.invokevirtual 105, 3) := by decide +kernel
theorem dX1_refusal_79 : decode cX1_refusal 79 = .ok (.getfield 108, 3) := by decide +kernel
theorem dX1_refusal_82 : decode cX1_refusal 82 = .ok (.if_icmp .ge 7, 3) := by decide +kernel
theorem dX1_refusal_85 : decode cX1_refusal 85 = .ok (.iconst 4, 1) := by decide +kernel
theorem dX1_refusal_86 : decode cX1_refusal 86 = .ok (.goto 4, 3) := by decide +kernel
theorem dX1_refusal_89 : decode cX1_refusal 89 = .ok (.iconst 0, 1) := by decide +kernel
theorem dX1_refusal_90 : decode cX1_refusal 90 = .ok (.ireturn, 1) := by decide +kernel
theorem dX1_lackOf_0 : decode cX1_lackOf 0 = .ok (.aload_n 0, 1) := by decide +kernel
theorem dX1_lackOf_1 : decode cX1_lackOf 1 = .ok (.getfield 37, 3) := by decide +kernel
theorem dX1_lackOf_4 : decode cX1_lackOf 4 = .ok (.iload_n 1, 1) := by decide +kernel
theorem dX1_lackOf_5 : decode cX1_lackOf 5 = .ok (.iaload, 1) := by decide +kernel
theorem dX1_lackOf_6 : decode cX1_lackOf 6 = .ok (.aload_n 0, 1) := by decide +kernel
theorem dX1_lackOf_7 : decode cX1_lackOf 7 = .ok (.getfield 25, 3) := by decide +kernel
theorem dX1_lackOf_10 : decode cX1_lackOf 10 = .ok (.iconst 2, 1) := by decide +kernel
theorem dX1_lackOf_11 : decode cX1_lackOf 11 = .ok (.iaload, 1) := by decide +kernel
theorem dX1_lackOf_12 : decode cX1_lackOf 12 = .ok (.imul, 1) := by decide +kernel
theorem dX1_lackOf_13 : decode cX1_lackOf 13 = .ok (.aload_n 0, 1) := by decide +kernel
theorem dX1_lackOf_14 : decode cX1_lackOf 14 = .ok (.getfield 40, 3) := by decide +kernel
theorem dX1_lackOf_17 : decode cX1_lackOf 17 = .ok (.iload_n 1, 1) := by decide +kernel
theorem dX1_lackOf_18 : decode cX1_lackOf 18 = .ok (.iaload, 1) := by decide +kernel
theorem dX1_lackOf_19 : decode cX1_lackOf 19 = .ok (.isub, 1) := by decide +kernel
theorem dX1_lackOf_20 : decode cX1_lackOf 20 = .ok (.ireturn, 1) := by decide +kernel
theorem dX1_misfit_0 : decode cX1_misfit 0 = .ok (.iconst 0, 1) := by decide +kernel
theorem dX1_misfit_1 : decode cX1_misfit 1 = .ok (.istore_n 1, 1) := by decide +kernel
theorem dX1_misfit_2 : decode cX1_misfit 2 = .ok (.iconst 0, 1) := by decide +kernel
theorem dX1_misfit_3 : decode cX1_misfit 3 = .ok (.istore_n 2, 1) := by decide +kernel
theorem dX1_misfit_4 : decode cX1_misfit 4 = .ok (.iload_n 2, 1) := by decide +kernel
theorem dX1_misfit_5 : decode cX1_misfit 5 = .ok (.sipush 144, 3) := by decide +kernel
theorem dX1_misfit_8 : decode cX1_misfit 8 = .ok (.if_icmp .ge 20, 3) := by decide +kernel
theorem dX1_misfit_11 : decode cX1_misfit 11 = .ok (.iload_n 1, 1) := by decide +kernel
theorem dX1_misfit_12 : decode cX1_misfit 12 = .ok (.aload_n 0, 1) := by decide +kernel
theorem dX1_misfit_13 : decode cX1_misfit 13 = .ok (.iload_n 2, 1) := by decide +kernel
theorem dX1_misfit_14 : decode cX1_misfit 14 = .ok (.invokevirtual 111, 3) := by decide +kernel
theorem dX1_misfit_17 : decode cX1_misfit 17 = .ok (.invokestatic 98, 3) := by decide +kernel
theorem dX1_misfit_20 : decode cX1_misfit 20 = .ok (.iadd, 1) := by decide +kernel
theorem dX1_misfit_21 : decode cX1_misfit 21 = .ok (.istore_n 1, 1) := by decide +kernel
theorem dX1_misfit_22 : decode cX1_misfit 22 = .ok (.iinc 2 1, 3) := by decide +kernel
theorem dX1_misfit_25 : decode cX1_misfit 25 = .ok (.goto (-21), 3) := by decide +kernel
theorem dX1_misfit_28 : decode cX1_misfit 28 = .ok (.iload_n 1, 1) := by decide +kernel
theorem dX1_misfit_29 : decode cX1_misfit 29 = .ok (.ireturn, 1) := by decide +kernel
theorem dX1_squaresOfSign_0 : decode cX1_squaresOfSign 0 = .ok (.iconst 0, 1) := by decide +kernel
theorem dX1_squaresOfSign_1 : decode cX1_squaresOfSign 1 = .ok (.istore_n 2, 1) := by decide +kernel
theorem dX1_squaresOfSign_2 : decode cX1_squaresOfSign 2 = .ok (.iconst 0, 1) := by decide +kernel
theorem dX1_squaresOfSign_3 : decode cX1_squaresOfSign 3 = .ok (.istore_n 3, 1) := by decide +kernel
theorem dX1_squaresOfSign_4 : decode cX1_squaresOfSign 4 = .ok (.iload_n 3, 1) := by decide +kernel
theorem dX1_squaresOfSign_5 : decode cX1_squaresOfSign 5 = .ok (.sipush 144, 3) := by decide +kernel
theorem dX1_squaresOfSign_8 : decode cX1_squaresOfSign 8 = .ok (.if_icmp .ge 42, 3) := by decide +kernel
theorem dX1_squaresOfSign_11 : decode cX1_squaresOfSign 11 = .ok (.aload_n 0, 1) := by decide +kernel
theorem dX1_squaresOfSign_12 : decode cX1_squaresOfSign 12 = .ok (.iload_n 3, 1) := by decide +kernel
theorem dX1_squaresOfSign_13 : decode cX1_squaresOfSign 13 = .ok (.invokevirtual 111, 3) := by decide +kernel
theorem dX1_squaresOfSign_16 : decode cX1_squaresOfSign 16 = .ok (.istore 4, 2) := by decide +kernel
theorem dX1_squaresOfSign_18 : decode cX1_squaresOfSign 18 = .ok (.iload 4, 2) := by decide +kernel
theorem dX1_squaresOfSign_20 : decode cX1_squaresOfSign 20 = .ok (.ifCond .le 7, 3) := by decide +kernel
theorem dX1_squaresOfSign_23 : decode cX1_squaresOfSign 23 = .ok (.iconst 1, 1) := by decide +kernel
theorem dX1_squaresOfSign_24 : decode cX1_squaresOfSign 24 = .ok (.goto 13, 3) := by decide +kernel
theorem dX1_squaresOfSign_27 : decode cX1_squaresOfSign 27 = .ok (.iload 4, 2) := by decide +kernel
theorem dX1_squaresOfSign_29 : decode cX1_squaresOfSign 29 = .ok (.ifCond .ge 7, 3) := by decide +kernel
theorem dX1_squaresOfSign_32 : decode cX1_squaresOfSign 32 = .ok (.iconst (-1), 1) := by decide +kernel
theorem dX1_squaresOfSign_33 : decode cX1_squaresOfSign 33 = .ok (.goto 4, 3) := by decide +kernel
theorem dX1_squaresOfSign_36 : decode cX1_squaresOfSign 36 = .ok (.iconst 0, 1) := by decide +kernel
theorem dX1_squaresOfSign_37 : decode cX1_squaresOfSign 37 = .ok (.iload_n 1, 1) := by decide +kernel
theorem dX1_squaresOfSign_38 : decode cX1_squaresOfSign 38 = .ok (.if_icmp .ne 6, 3) := by decide +kernel
theorem dX1_squaresOfSign_41 : decode cX1_squaresOfSign 41 = .ok (.iinc 2 1, 3) := by decide +kernel
theorem dX1_squaresOfSign_44 : decode cX1_squaresOfSign 44 = .ok (.iinc 3 1, 3) := by decide +kernel
theorem dX1_squaresOfSign_47 : decode cX1_squaresOfSign 47 = .ok (.goto (-43), 3) := by decide +kernel
theorem dX1_squaresOfSign_50 : decode cX1_squaresOfSign 50 = .ok (.iload_n 2, 1) := by decide +kernel
theorem dX1_squaresOfSign_51 : decode cX1_squaresOfSign 51 = .ok (.ireturn, 1) := by decide +kernel
theorem dX1_gainTo_0 : decode cX1_gainTo 0 = .ok (.iconst 0, 1) := by decide +kernel
theorem dX1_gainTo_1 : decode cX1_gainTo 1 = .ok (.istore_n 2, 1) := by decide +kernel
theorem dX1_gainTo_2 : decode cX1_gainTo 2 = .ok (.aload_n 0, 1) := by decide +kernel
theorem dX1_gainTo_3 : decode cX1_gainTo 3 = .ok (.aload_n 0, 1) := by decide +kernel
theorem dX1_gainTo_4 : decode cX1_gainTo 4 = .ok (.getfield 53, 3) := by decide +kernel
theorem dX1_gainTo_7 : decode cX1_gainTo 7 = .ok (.iload_n 1, 1) := by decide +kernel
theorem dX1_gainTo_8 : decode cX1_gainTo 8 = .ok (.invokevirtual 105, 3) := by decide +kernel
theorem dX1_gainTo_11 : decode cX1_gainTo 11 = .ok (.getfield 114, 3) := by decide +kernel
theorem dX1_gainTo_14 : decode cX1_gainTo 14 = .ok (.astore_n 3, 1) := by decide +kernel
theorem dX1_gainTo_15 : decode cX1_gainTo 15 = .ok (.aload_n 3, 1) := by decide +kernel
theorem dX1_gainTo_16 : decode cX1_gainTo 16 = .ok (.arraylength, 1) := by decide +kernel
theorem dX1_gainTo_17 : decode cX1_gainTo 17 = .ok (.istore 4, 2) := by decide +kernel
theorem dX1_gainTo_19 : decode cX1_gainTo 19 = .ok (.iconst 0, 1) := by decide +kernel
theorem dX1_gainTo_20 : decode cX1_gainTo 20 = .ok (.istore 5, 2) := by decide +kernel
theorem dX1_gainTo_22 : decode cX1_gainTo 22 = .ok (.iload 5, 2) := by decide +kernel
theorem dX1_gainTo_24 : decode cX1_gainTo 24 = .ok (.iload 4, 2) := by decide +kernel
theorem dX1_gainTo_26 : decode cX1_gainTo 26 = .ok (.if_icmp .ge 36, 3) := by decide +kernel
theorem dX1_gainTo_29 : decode cX1_gainTo 29 = .ok (.aload_n 3, 1) := by decide +kernel
theorem dX1_gainTo_30 : decode cX1_gainTo 30 = .ok (.iload 5, 2) := by decide +kernel
theorem dX1_gainTo_32 : decode cX1_gainTo 32 = .ok (.iaload, 1) := by decide +kernel
theorem dX1_gainTo_33 : decode cX1_gainTo 33 = .ok (.istore 6, 2) := by decide +kernel
theorem dX1_gainTo_35 : decode cX1_gainTo 35 = .ok (.iload_n 2, 1) := by decide +kernel
theorem dX1_gainTo_36 : decode cX1_gainTo 36 = .ok (.aload_n 0, 1) := by decide +kernel
theorem dX1_gainTo_37 : decode cX1_gainTo 37 = .ok (.iload 6, 2) := by decide +kernel
theorem dX1_gainTo_39 : decode cX1_gainTo 39 = .ok (.invokevirtual 111, 3) := by decide +kernel
theorem dX1_gainTo_42 : decode cX1_gainTo 42 = .ok (.aload_n 0, 1) := by decide +kernel
theorem dX1_gainTo_43 : decode cX1_gainTo 43 = .ok (.getfield 18, 3) := by decide +kernel
theorem dX1_gainTo_46 : decode cX1_gainTo 46 = .ok (.aload_n 0, 1) := by decide +kernel
theorem dX1_gainTo_47 : decode cX1_gainTo 47 = .ok (.getfield 56, 3) := by decide +kernel
theorem dX1_gainTo_50 : decode cX1_gainTo 50 = .ok (.iaload, 1) := by decide +kernel
theorem dX1_gainTo_51 : decode cX1_gainTo 51 = .ok (.invokestatic 117, 3) := by decide +kernel
theorem dX1_gainTo_54 : decode cX1_gainTo 54 = .ok (.iadd, 1) := by decide +kernel
theorem dX1_gainTo_55 : decode cX1_gainTo 55 = .ok (.istore_n 2, 1) := by decide +kernel
theorem dX1_gainTo_56 : decode cX1_gainTo 56 = .ok (.iinc 5 1, 3) := by decide +kernel
theorem dX1_gainTo_59 : decode cX1_gainTo 59 = .ok (.goto (-37), 3) := by decide +kernel
theorem dX1_gainTo_62 : decode cX1_gainTo 62 = .ok (.iload_n 2, 1) := by decide +kernel
theorem dX1_gainTo_63 : decode cX1_gainTo 63 = .ok (.ireturn, 1) := by decide +kernel
theorem dX1_relief_0 : decode cX1_relief 0 = .ok (.iload_n 0, 1) := by decide +kernel
theorem dX1_relief_1 : decode cX1_relief 1 = .ok (.invokestatic 98, 3) := by decide +kernel
theorem dX1_relief_4 : decode cX1_relief 4 = .ok (.iload_n 0, 1) := by decide +kernel
theorem dX1_relief_5 : decode cX1_relief 5 = .ok (.iload_n 1, 1) := by decide +kernel
theorem dX1_relief_6 : decode cX1_relief 6 = .ok (.isub, 1) := by decide +kernel
theorem dX1_relief_7 : decode cX1_relief 7 = .ok (.invokestatic 98, 3) := by decide +kernel
theorem dX1_relief_10 : decode cX1_relief 10 = .ok (.isub, 1) := by decide +kernel
theorem dX1_relief_11 : decode cX1_relief 11 = .ok (.ireturn, 1) := by decide +kernel
theorem dX1_misfitByGains_0 : decode cX1_misfitByGains 0 = .ok (.iconst 0, 1) := by decide +kernel
theorem dX1_misfitByGains_1 : decode cX1_misfitByGains 1 = .ok (.istore_n 2, 1) := by decide +kernel
theorem dX1_misfitByGains_2 : decode cX1_misfitByGains 2 = .ok (.iconst 0, 1) := by decide +kernel
theorem dX1_misfitByGains_3 : decode cX1_misfitByGains 3 = .ok (.istore_n 3, 1) := by decide +kernel
theorem dX1_misfitByGains_4 : decode cX1_misfitByGains 4 = .ok (.iload_n 3, 1) := by decide +kernel
theorem dX1_misfitByGains_5 : decode cX1_misfitByGains 5 = .ok (.sipush 144, 3) := by decide +kernel
theorem dX1_misfitByGains_8 : decode cX1_misfitByGains 8 = .ok (.if_icmp .ge 31, 3) := by decide +kernel
theorem dX1_misfitByGains_11 : decode cX1_misfitByGains 11 = .ok (.aload_n 1, 1) := by decide +kernel
theorem dX1_misfitByGains_12 : decode cX1_misfitByGains 12 = .ok (.iload_n 3, 1) := by decide +kernel
theorem dX1_misfitByGains_13 : decode cX1_misfitByGains 13 = .ok (.aload_n 0, 1) := by decide +kernel
theorem dX1_misfitByGains_14 : decode cX1_misfitByGains 14 = .ok (.getfield 37, 3) := by decide +kernel
theorem dX1_misfitByGains_17 : decode cX1_misfitByGains 17 = .ok (.iload_n 3, 1) := by decide +kernel
theorem dX1_misfitByGains_18 : decode cX1_misfitByGains 18 = .ok (.iaload, 1) := by decide +kernel
theorem dX1_misfitByGains_19 : decode cX1_misfitByGains 19 = .ok (.aload_n 0, 1) := by decide +kernel
theorem dX1_misfitByGains_20 : decode cX1_misfitByGains 20 = .ok (.getfield 25, 3) := by decide +kernel
theorem dX1_misfitByGains_23 : decode cX1_misfitByGains 23 = .ok (.iconst 2, 1) := by decide +kernel
theorem dX1_misfitByGains_24 : decode cX1_misfitByGains 24 = .ok (.iaload, 1) := by decide +kernel
theorem dX1_misfitByGains_25 : decode cX1_misfitByGains 25 = .ok (.imul, 1) := by decide +kernel
theorem dX1_misfitByGains_26 : decode cX1_misfitByGains 26 = .ok (.iastore, 1) := by decide +kernel
theorem dX1_misfitByGains_27 : decode cX1_misfitByGains 27 = .ok (.iload_n 2, 1) := by decide +kernel
theorem dX1_misfitByGains_28 : decode cX1_misfitByGains 28 = .ok (.aload_n 1, 1) := by decide +kernel
theorem dX1_misfitByGains_29 : decode cX1_misfitByGains 29 = .ok (.iload_n 3, 1) := by decide +kernel
theorem dX1_misfitByGains_30 : decode cX1_misfitByGains 30 = .ok (.iaload, 1) := by decide +kernel
theorem dX1_misfitByGains_31 : decode cX1_misfitByGains 31 = .ok (.iadd, 1) := by decide +kernel
theorem dX1_misfitByGains_32 : decode cX1_misfitByGains 32 = .ok (.istore_n 2, 1) := by decide +kernel
theorem dX1_misfitByGains_33 : decode cX1_misfitByGains 33 = .ok (.iinc 3 1, 3) := by decide +kernel
theorem dX1_misfitByGains_36 : decode cX1_misfitByGains 36 = .ok (.goto (-32), 3) := by decide +kernel
theorem dX1_misfitByGains_39 : decode cX1_misfitByGains 39 = .ok (.iconst 0, 1) := by decide +kernel
theorem dX1_misfitByGains_40 : decode cX1_misfitByGains 40 = .ok (.istore_n 3, 1) := by decide +kernel
theorem dX1_misfitByGains_41 : decode cX1_misfitByGains 41 = .ok (.iload_n 3, 1) := by decide +kernel
theorem dX1_misfitByGains_42 : decode cX1_misfitByGains 42 = .ok (.aload_n 0, 1) := by decide +kernel
theorem dX1_misfitByGains_43 : decode cX1_misfitByGains 43 = .ok (.getfield 68, 3) := by decide +kernel
theorem dX1_misfitByGains_46 : decode cX1_misfitByGains 46 = .ok (.if_icmp .ge 92, 3) := by decide +kernel
theorem dX1_misfitByGains_49 : decode cX1_misfitByGains 49 = .ok (.aload_n 0, 1) := by decide +kernel
theorem dX1_misfitByGains_50 : decode cX1_misfitByGains 50 = .ok (.getfield 18, 3) := by decide +kernel
theorem dX1_misfitByGains_53 : decode cX1_misfitByGains 53 = .ok (.aload_n 0, 1) := by decide +kernel
theorem dX1_misfitByGains_54 : decode cX1_misfitByGains 54 = .ok (.getfield 34, 3) := by decide +kernel
theorem dX1_misfitByGains_57 : decode cX1_misfitByGains 57 = .ok (.iload_n 3, 1) := by decide +kernel
theorem dX1_misfitByGains_58 : decode cX1_misfitByGains 58 = .ok (.iaload, 1) := by decide +kernel
theorem dX1_misfitByGains_59 : decode cX1_misfitByGains 59 = .ok (.iaload, 1) := by decide +kernel
theorem dX1_misfitByGains_60 : decode cX1_misfitByGains 60 = .ok (.istore 4, 2) := by decide +kernel
theorem dX1_misfitByGains_62 : decode cX1_misfitByGains 62 = .ok (.aload_n 0, 1) := by decide +kernel
theorem dX1_misfitByGains_63 : decode cX1_misfitByGains 63 = .ok (.aload_n 0, 1) := by decide +kernel
theorem dX1_misfitByGains_64 : decode cX1_misfitByGains 64 = .ok (.getfield 28, 3) := by decide +kernel
theorem dX1_misfitByGains_67 : decode cX1_misfitByGains 67 = .ok (.iload_n 3, 1) := by decide +kernel
theorem dX1_misfitByGains_68 : decode cX1_misfitByGains 68 = .ok (.iaload, 1) := by decide +kernel
theorem dX1_misfitByGains_69 : decode cX1_misfitByGains 69 = .ok (.aload_n 0, 1) := by decide +kernel
theorem dX1_misfitByGains_70 : decode cX1_misfitByGains 70 = .ok (.getfield 31, 3) := by decide +kernel
theorem dX1_misfitByGains_73 : decode cX1_misfitByGains 73 = .ok (.iload_n 3, 1) := by decide +kernel
theorem dX1_misfitByGains_74 : decode cX1_misfitByGains 74 = .ok (.iaload, 1) := by decide +kernel
theorem dX1_misfitByGains_75 : decode cX1_misfitByGains 75 = .ok (.invokevirtual 105, 3) := by decide +kernel
theorem dX1_misfitByGains_78 : decode cX1_misfitByGains 78 = .ok (.getfield 114, 3) := by decide +kernel
theorem dX1_misfitByGains_81 : decode cX1_misfitByGains 81 = .ok (.astore 5, 2) := by decide +kernel
theorem dX1_misfitByGains_83 : decode cX1_misfitByGains 83 = .ok (.aload 5, 2) := by decide +kernel
theorem dX1_misfitByGains_85 : decode cX1_misfitByGains 85 = .ok (.arraylength, 1) := by decide +kernel
theorem dX1_misfitByGains_86 : decode cX1_misfitByGains 86 = .ok (.istore 6, 2) := by decide +kernel
theorem dX1_misfitByGains_88 : decode cX1_misfitByGains 88 = .ok (.iconst 0, 1) := by decide +kernel
theorem dX1_misfitByGains_89 : decode cX1_misfitByGains 89 = .ok (.istore 7, 2) := by decide +kernel
theorem dX1_misfitByGains_91 : decode cX1_misfitByGains 91 = .ok (.iload 7, 2) := by decide +kernel
theorem dX1_misfitByGains_93 : decode cX1_misfitByGains 93 = .ok (.iload 6, 2) := by decide +kernel
theorem dX1_misfitByGains_95 : decode cX1_misfitByGains 95 = .ok (.if_icmp .ge 37, 3) := by decide +kernel
theorem dX1_misfitByGains_98 : decode cX1_misfitByGains 98 = .ok (.aload 5, 2) := by decide +kernel
theorem dX1_misfitByGains_100 : decode cX1_misfitByGains 100 = .ok (.iload 7, 2) := by decide +kernel
theorem dX1_misfitByGains_102 : decode cX1_misfitByGains 102 = .ok (.iaload, 1) := by decide +kernel
theorem dX1_misfitByGains_103 : decode cX1_misfitByGains 103 = .ok (.istore 8, 2) := by decide +kernel
theorem dX1_misfitByGains_105 : decode cX1_misfitByGains 105 = .ok (.iload_n 2, 1) := by decide +kernel
theorem dX1_misfitByGains_106 : decode cX1_misfitByGains 106 = .ok (.aload_n 1, 1) := by decide +kernel
theorem dX1_misfitByGains_107 : decode cX1_misfitByGains 107 = .ok (.iload 8, 2) := by decide +kernel
theorem dX1_misfitByGains_109 : decode cX1_misfitByGains 109 = .ok (.iaload, 1) := by decide +kernel
theorem dX1_misfitByGains_110 : decode cX1_misfitByGains 110 = .ok (.iload 4, 2) := by decide +kernel
theorem dX1_misfitByGains_112 : decode cX1_misfitByGains 112 = .ok (.invokestatic 117, 3) := by decide +kernel
theorem dX1_misfitByGains_115 : decode cX1_misfitByGains 115 = .ok (.isub, 1) := by decide +kernel
theorem dX1_misfitByGains_116 : decode cX1_misfitByGains 116 = .ok (.istore_n 2, 1) := by decide +kernel
theorem dX1_misfitByGains_117 : decode cX1_misfitByGains 117 = .ok (.aload_n 1, 1) := by decide +kernel
theorem dX1_misfitByGains_118 : decode cX1_misfitByGains 118 = .ok (.iload 8, 2) := by decide +kernel
theorem dX1_misfitByGains_120 : decode cX1_misfitByGains 120 = .ok (.dup2, 1) := by decide +kernel
theorem dX1_misfitByGains_121 : decode cX1_misfitByGains 121 = .ok (.iaload, 1) := by decide +kernel
theorem dX1_misfitByGains_122 : decode cX1_misfitByGains 122 = .ok (.iload 4, 2) := by decide +kernel
theorem dX1_misfitByGains_124 : decode cX1_misfitByGains 124 = .ok (.isub, 1) := by decide +kernel
theorem dX1_misfitByGains_125 : decode cX1_misfitByGains 125 = .ok (.iastore, 1) := by decide +kernel
theorem dX1_misfitByGains_126 : decode cX1_misfitByGains 126 = .ok (.iinc 7 1, 3) := by decide +kernel
theorem dX1_misfitByGains_129 : decode cX1_misfitByGains 129 = .ok (.goto (-38), 3) := by decide +kernel
theorem dX1_misfitByGains_132 : decode cX1_misfitByGains 132 = .ok (.iinc 3 1, 3) := by decide +kernel
theorem dX1_misfitByGains_135 : decode cX1_misfitByGains 135 = .ok (.goto (-94), 3) := by decide +kernel
theorem dX1_misfitByGains_138 : decode cX1_misfitByGains 138 = .ok (.iload_n 2, 1) := by decide +kernel
theorem dX1_misfitByGains_139 : decode cX1_misfitByGains 139 = .ok (.ireturn, 1) := by decide +kernel
theorem dX1_bestNail_0 : decode cX1_bestNail 0 = .ok (.iconst (-1), 1) := by decide +kernel
theorem dX1_bestNail_1 : decode cX1_bestNail 1 = .ok (.istore_n 1, 1) := by decide +kernel
theorem dX1_bestNail_2 : decode cX1_bestNail 2 = .ok (.iconst 0, 1) := by decide +kernel
theorem dX1_bestNail_3 : decode cX1_bestNail 3 = .ok (.istore_n 2, 1) := by decide +kernel
theorem dX1_bestNail_4 : decode cX1_bestNail 4 = .ok (.iconst 0, 1) := by decide +kernel
theorem dX1_bestNail_5 : decode cX1_bestNail 5 = .ok (.istore_n 3, 1) := by decide +kernel
theorem dX1_bestNail_6 : decode cX1_bestNail 6 = .ok (.iconst 0, 1) := by decide +kernel
theorem dX1_bestNail_7 : decode cX1_bestNail 7 = .ok (.istore 4, 2) := by decide +kernel
theorem dX1_bestNail_9 : decode cX1_bestNail 9 = .ok (.iconst 0, 1) := by decide +kernel
theorem dX1_bestNail_10 : decode cX1_bestNail 10 = .ok (.istore 5, 2) := by decide +kernel
theorem dX1_bestNail_12 : decode cX1_bestNail 12 = .ok (.iload 5, 2) := by decide +kernel
theorem dX1_bestNail_14 : decode cX1_bestNail 14 = .ok (.aload_n 0, 1) := by decide +kernel
theorem dX1_bestNail_15 : decode cX1_bestNail 15 = .ok (.getfield 9, 3) := by decide +kernel
theorem dX1_bestNail_18 : decode cX1_bestNail 18 = .ok (.if_icmp .ge 114, 3) := by decide +kernel
theorem dX1_bestNail_21 : decode cX1_bestNail 21 = .ok (.aload_n 0, 1) := by decide +kernel
theorem dX1_bestNail_22 : decode cX1_bestNail 22 = .ok (.iload 5, 2) := by decide +kernel
theorem dX1_bestNail_24 : decode cX1_bestNail 24 = .ok (.invokevirtual 120, 3) := by decide +kernel
theorem dX1_bestNail_27 : decode cX1_bestNail 27 = .ok (.ifCond .ne 99, 3) := by decide +kernel
theorem dX1_bestNail_30 : decode cX1_bestNail 30 = .ok (.aload_n 0, 1) := by decide +kernel
theorem dX1_bestNail_31 : decode cX1_bestNail 31 = .ok (.iload 5, 2) := by decide +kernel
theorem dX1_bestNail_33 : decode cX1_bestNail 33 = .ok (.invokevirtual 123, 3) := by decide +kernel
theorem dX1_bestNail_36 : decode cX1_bestNail 36 = .ok (.istore 6, 2) := by decide +kernel
theorem dX1_bestNail_38 : decode cX1_bestNail 38 = .ok (.aload_n 0, 1) := by decide +kernel
theorem dX1_bestNail_39 : decode cX1_bestNail 39 = .ok (.aload_n 0, 1) := by decide +kernel
theorem dX1_bestNail_40 : decode cX1_bestNail 40 = .ok (.getfield 53, 3) := by decide +kernel
theorem dX1_bestNail_43 : decode cX1_bestNail 43 = .ok (.iload 5, 2) := by decide +kernel
theorem dX1_bestNail_45 : decode cX1_bestNail 45 = .ok (.invokevirtual 102, 3) := by decide +kernel
theorem dX1_bestNail_48 : decode cX1_bestNail 48 = .ok (.istore 7, 2) := by decide +kernel
theorem dX1_bestNail_50 : decode cX1_bestNail 50 = .ok (.aload_n 0, 1) := by decide +kernel
theorem dX1_bestNail_51 : decode cX1_bestNail 51 = .ok (.aload_n 0, 1) := by decide +kernel
theorem dX1_bestNail_52 : decode cX1_bestNail 52 = .ok (.getfield 53, 3) := by decide +kernel
theorem dX1_bestNail_55 : decode cX1_bestNail 55 = .ok (.iload 5, 2) := by decide +kernel
theorem dX1_bestNail_57 : decode cX1_bestNail 57 = .ok (.invokevirtual 105, 3) := by decide +kernel
theorem dX1_bestNail_60 : decode cX1_bestNail 60 = .ok (.getfield 108, 3) := by decide +kernel
theorem dX1_bestNail_63 : decode cX1_bestNail 63 = .ok (.istore 8, 2) := by decide +kernel
theorem dX1_bestNail_65 : decode cX1_bestNail 65 = .ok (.iload 7, 2) := by decide +kernel
theorem dX1_bestNail_67 : decode cX1_bestNail 67 = .ok (.iload_n 3, 1) := by decide +kernel
theorem dX1_bestNail_68 : decode cX1_bestNail 68 = .ok (.if_icmp .lt 16, 3) := by decide +kernel
theorem dX1_bestNail_71 : decode cX1_bestNail 71 = .ok (.iload 7, 2) := by decide +kernel
theorem dX1_bestNail_73 : decode cX1_bestNail 73 = .ok (.iload_n 3, 1) := by decide +kernel
theorem dX1_bestNail_74 : decode cX1_bestNail 74 = .ok (.if_icmp .ne 14, 3) := by decide +kernel
theorem dX1_bestNail_77 : decode cX1_bestNail 77 = .ok (.iload 8, 2) := by decide +kernel
theorem dX1_bestNail_79 : decode cX1_bestNail 79 = .ok (.iload 4, 2) := by decide +kernel
theorem dX1_bestNail_81 : decode cX1_bestNail 81 = .ok (.if_icmp .ge 7, 3) := by decide +kernel
theorem dX1_bestNail_84 : decode cX1_bestNail 84 = .ok (.iconst 1, 1) := by decide +kernel
theorem dX1_bestNail_85 : decode cX1_bestNail 85 = .ok (.goto 4, 3) := by decide +kernel
theorem dX1_bestNail_88 : decode cX1_bestNail 88 = .ok (.iconst 0, 1) := by decide +kernel
theorem dX1_bestNail_89 : decode cX1_bestNail 89 = .ok (.istore 9, 2) := by decide +kernel
theorem dX1_bestNail_91 : decode cX1_bestNail 91 = .ok (.iload_n 1, 1) := by decide +kernel
theorem dX1_bestNail_92 : decode cX1_bestNail 92 = .ok (.iconst (-1), 1) := by decide +kernel
theorem dX1_bestNail_93 : decode cX1_bestNail 93 = .ok (.if_icmp .eq 20, 3) := by decide +kernel
theorem dX1_bestNail_96 : decode cX1_bestNail 96 = .ok (.iload 6, 2) := by decide +kernel
theorem dX1_bestNail_98 : decode cX1_bestNail 98 = .ok (.iload_n 2, 1) := by decide +kernel
theorem dX1_bestNail_99 : decode cX1_bestNail 99 = .ok (.if_icmp .gt 14, 3) := by decide +kernel
theorem dX1_bestNail_102 : decode cX1_bestNail 102 = .ok (.iload 6, 2) := by decide +kernel
theorem dX1_bestNail_104 : decode cX1_bestNail 104 = .ok (.iload_n 2, 1) := by decide +kernel
theorem dX1_bestNail_105 : decode cX1_bestNail 105 = .ok (.if_icmp .ne 21, 3) := by decide +kernel
theorem dX1_bestNail_108 : decode cX1_bestNail 108 = .ok (.iload 9, 2) := by decide +kernel
theorem dX1_bestNail_110 : decode cX1_bestNail 110 = .ok (.ifCond .eq 16, 3) := by decide +kernel
theorem dX1_bestNail_113 : decode cX1_bestNail 113 = .ok (.iload 5, 2) := by decide +kernel
theorem dX1_bestNail_115 : decode cX1_bestNail 115 = .ok (.istore_n 1, 1) := by decide +kernel
theorem dX1_bestNail_116 : decode cX1_bestNail 116 = .ok (.iload 6, 2) := by decide +kernel
theorem dX1_bestNail_118 : decode cX1_bestNail 118 = .ok (.istore_n 2, 1) := by decide +kernel
theorem dX1_bestNail_119 : decode cX1_bestNail 119 = .ok (.iload 7, 2) := by decide +kernel
theorem dX1_bestNail_121 : decode cX1_bestNail 121 = .ok (.istore_n 3, 1) := by decide +kernel
theorem dX1_bestNail_122 : decode cX1_bestNail 122 = .ok (.iload 8, 2) := by decide +kernel
theorem dX1_bestNail_124 : decode cX1_bestNail 124 = .ok (.istore 4, 2) := by decide +kernel
theorem dX1_bestNail_126 : decode cX1_bestNail 126 = .ok (.iinc 5 1, 3) := by decide +kernel
theorem dX1_bestNail_129 : decode cX1_bestNail 129 = .ok (.goto (-117), 3) := by decide +kernel
theorem dX1_bestNail_132 : decode cX1_bestNail 132 = .ok (.iload_n 1, 1) := by decide +kernel
theorem dX1_bestNail_133 : decode cX1_bestNail 133 = .ok (.ireturn, 1) := by decide +kernel
theorem dX1_nailOfMostGain_0 : decode cX1_nailOfMostGain 0 = .ok (.iconst (-1), 1) := by decide +kernel
theorem dX1_nailOfMostGain_1 : decode cX1_nailOfMostGain 1 = .ok (.istore_n 1, 1) := by decide +kernel
theorem dX1_nailOfMostGain_2 : decode cX1_nailOfMostGain 2 = .ok (.iconst 0, 1) := by decide +kernel
theorem dX1_nailOfMostGain_3 : decode cX1_nailOfMostGain 3 = .ok (.istore_n 2, 1) := by decide +kernel
theorem dX1_nailOfMostGain_4 : decode cX1_nailOfMostGain 4 = .ok (.iconst 0, 1) := by decide +kernel
theorem dX1_nailOfMostGain_5 : decode cX1_nailOfMostGain 5 = .ok (.istore_n 3, 1) := by decide +kernel
theorem dX1_nailOfMostGain_6 : decode cX1_nailOfMostGain 6 = .ok (.iload_n 3, 1) := by decide +kernel
theorem dX1_nailOfMostGain_7 : decode cX1_nailOfMostGain 7 = .ok (.aload_n 0, 1) := by decide +kernel
theorem dX1_nailOfMostGain_8 : decode cX1_nailOfMostGain 8 = .ok (.getfield 9, 3) := by decide +kernel
theorem dX1_nailOfMostGain_11 : decode cX1_nailOfMostGain 11 = .ok (.if_icmp .ge 40, 3) := by decide +kernel
theorem dX1_nailOfMostGain_14 : decode cX1_nailOfMostGain 14 = .ok (.aload_n 0, 1) := by decide +kernel
theorem dX1_nailOfMostGain_15 : decode cX1_nailOfMostGain 15 = .ok (.iload_n 3, 1) := by decide +kernel
theorem dX1_nailOfMostGain_16 : decode cX1_nailOfMostGain 16 = .ok (.invokevirtual 120, 3) := by decide +kernel
theorem dX1_nailOfMostGain_19 : decode cX1_nailOfMostGain 19 = .ok (.ifCond .ne 26, 3) := by decide +kernel
theorem dX1_nailOfMostGain_22 : decode cX1_nailOfMostGain 22 = .ok (.aload_n 0, 1) := by decide +kernel
theorem dX1_nailOfMostGain_23 : decode cX1_nailOfMostGain 23 = .ok (.iload_n 3, 1) := by decide +kernel
theorem dX1_nailOfMostGain_24 : decode cX1_nailOfMostGain 24 = .ok (.invokevirtual 123, 3) := by decide +kernel
theorem dX1_nailOfMostGain_27 : decode cX1_nailOfMostGain 27 = .ok (.istore 4, 2) := by decide +kernel
theorem dX1_nailOfMostGain_29 : decode cX1_nailOfMostGain 29 = .ok (.iload_n 1, 1) := by decide +kernel
theorem dX1_nailOfMostGain_30 : decode cX1_nailOfMostGain 30 = .ok (.iconst (-1), 1) := by decide +kernel
theorem dX1_nailOfMostGain_31 : decode cX1_nailOfMostGain 31 = .ok (.if_icmp .eq 9, 3) := by decide +kernel
theorem dX1_nailOfMostGain_34 : decode cX1_nailOfMostGain 34 = .ok (.iload 4, 2) := by decide +kernel
theorem dX1_nailOfMostGain_36 : decode cX1_nailOfMostGain 36 = .ok (.iload_n 2, 1) := by decide +kernel
theorem dX1_nailOfMostGain_37 : decode cX1_nailOfMostGain 37 = .ok (.if_icmp .le 8, 3) := by decide +kernel
theorem dX1_nailOfMostGain_40 : decode cX1_nailOfMostGain 40 = .ok (.iload_n 3, 1) := by decide +kernel
theorem dX1_nailOfMostGain_41 : decode cX1_nailOfMostGain 41 = .ok (.istore_n 1, 1) := by decide +kernel
theorem dX1_nailOfMostGain_42 : decode cX1_nailOfMostGain 42 = .ok (.iload 4, 2) := by decide +kernel
theorem dX1_nailOfMostGain_44 : decode cX1_nailOfMostGain 44 = .ok (.istore_n 2, 1) := by decide +kernel
theorem dX1_nailOfMostGain_45 : decode cX1_nailOfMostGain 45 = .ok (.iinc 3 1, 3) := by decide +kernel
theorem dX1_nailOfMostGain_48 : decode cX1_nailOfMostGain 48 = .ok (.goto (-42), 3) := by decide +kernel
theorem dX1_nailOfMostGain_51 : decode cX1_nailOfMostGain 51 = .ok (.iload_n 1, 1) := by decide +kernel
theorem dX1_nailOfMostGain_52 : decode cX1_nailOfMostGain 52 = .ok (.ireturn, 1) := by decide +kernel
theorem dX1_lay_0 : decode cX1_lay 0 = .ok (.aload_n 0, 1) := by decide +kernel
theorem dX1_lay_1 : decode cX1_lay 1 = .ok (.getfield 68, 3) := by decide +kernel
theorem dX1_lay_4 : decode cX1_lay 4 = .ok (.sipush 200, 3) := by decide +kernel
theorem dX1_lay_7 : decode cX1_lay 7 = .ok (.if_icmp .le 4, 3) := by decide +kernel
theorem dX1_lay_10 : decode cX1_lay 10 = .ok (.return_, 1) := by decide +kernel
theorem dX1_lay_11 : decode cX1_lay 11 = .ok (.aload_n 0, 1) := by decide +kernel
theorem dX1_lay_12 : decode cX1_lay 12 = .ok (.getfield 28, 3) := by decide +kernel
theorem dX1_lay_15 : decode cX1_lay 15 = .ok (.aload_n 0, 1) := by decide +kernel
theorem dX1_lay_16 : decode cX1_lay 16 = .ok (.getfield 68, 3) := by decide +kernel
theorem dX1_lay_19 : decode cX1_lay 19 = .ok (.aload_n 0, 1) := by decide +kernel
theorem dX1_lay_20 : decode cX1_lay 20 = .ok (.getfield 53, 3) := by decide +kernel
theorem dX1_lay_23 : decode cX1_lay 23 = .ok (.iastore, 1) := by decide +kernel
theorem dX1_lay_24 : decode cX1_lay 24 = .ok (.aload_n 0, 1) := by decide +kernel
theorem dX1_lay_25 : decode cX1_lay 25 = .ok (.getfield 31, 3) := by decide +kernel
theorem dX1_lay_28 : decode cX1_lay 28 = .ok (.aload_n 0, 1) := by decide +kernel
theorem dX1_lay_29 : decode cX1_lay 29 = .ok (.getfield 68, 3) := by decide +kernel
theorem dX1_lay_32 : decode cX1_lay 32 = .ok (.iload_n 1, 1) := by decide +kernel
theorem dX1_lay_33 : decode cX1_lay 33 = .ok (.iastore, 1) := by decide +kernel
theorem dX1_lay_34 : decode cX1_lay 34 = .ok (.aload_n 0, 1) := by decide +kernel
theorem dX1_lay_35 : decode cX1_lay 35 = .ok (.getfield 34, 3) := by decide +kernel
theorem dX1_lay_38 : decode cX1_lay 38 = .ok (.aload_n 0, 1) := by decide +kernel
theorem dX1_lay_39 : decode cX1_lay 39 = .ok (.getfield 68, 3) := by decide +kernel
theorem dX1_lay_42 : decode cX1_lay 42 = .ok (.aload_n 0, 1) := by decide +kernel
theorem dX1_lay_43 : decode cX1_lay 43 = .ok (.getfield 56, 3) := by decide +kernel
theorem dX1_lay_46 : decode cX1_lay 46 = .ok (.iastore, 1) := by decide +kernel
theorem dX1_lay_47 : decode cX1_lay 47 = .ok (.aload_n 0, 1) := by decide +kernel
theorem dX1_lay_48 : decode cX1_lay 48 = .ok (.aload_n 0, 1) := by decide +kernel
theorem dX1_lay_49 : decode cX1_lay 49 = .ok (.getfield 68, 3) := by decide +kernel
theorem dX1_lay_52 : decode cX1_lay 52 = .ok (.iconst 1, 1) := by decide +kernel
theorem dX1_lay_53 : decode cX1_lay 53 = .ok (.invokevirtual 126, 3) := by decide +kernel
theorem dX1_lay_56 : decode cX1_lay 56 = .ok (.aload_n 0, 1) := by decide +kernel
theorem dX1_lay_57 : decode cX1_lay 57 = .ok (.dup, 1) := by decide +kernel
theorem dX1_lay_58 : decode cX1_lay 58 = .ok (.getfield 68, 3) := by decide +kernel
theorem dX1_lay_61 : decode cX1_lay 61 = .ok (.iconst 1, 1) := by decide +kernel
theorem dX1_lay_62 : decode cX1_lay 62 = .ok (.iadd, 1) := by decide +kernel
theorem dX1_lay_63 : decode cX1_lay 63 = .ok (.putfield 68, 3) := by decide +kernel
theorem dX1_lay_66 : decode cX1_lay 66 = .ok (.aload_n 0, 1) := by decide +kernel
theorem dX1_lay_67 : decode cX1_lay 67 = .ok (.iload_n 1, 1) := by decide +kernel
theorem dX1_lay_68 : decode cX1_lay 68 = .ok (.putfield 53, 3) := by decide +kernel
theorem dX1_lay_71 : decode cX1_lay 71 = .ok (.return_, 1) := by decide +kernel
theorem dX1_takeOff_0 : decode cX1_takeOff 0 = .ok (.aload_n 0, 1) := by decide +kernel
theorem dX1_takeOff_1 : decode cX1_takeOff 1 = .ok (.getfield 68, 3) := by decide +kernel
theorem dX1_takeOff_4 : decode cX1_takeOff 4 = .ok (.ifCond .gt 4, 3) := by decide +kernel
theorem dX1_takeOff_7 : decode cX1_takeOff 7 = .ok (.return_, 1) := by decide +kernel
theorem dX1_takeOff_8 : decode cX1_takeOff 8 = .ok (.aload_n 0, 1) := by decide +kernel
theorem dX1_takeOff_9 : decode cX1_takeOff 9 = .ok (.dup, 1) := by decide +kernel
theorem dX1_takeOff_10 : decode cX1_takeOff 10 = .ok (.getfield 68, 3) := by decide +kernel
theorem dX1_takeOff_13 : decode cX1_takeOff 13 = .ok (.iconst 1, 1) := by decide +kernel
theorem dX1_takeOff_14 : decode cX1_takeOff 14 = .ok (.isub, 1) := by decide +kernel
theorem dX1_takeOff_15 : decode cX1_takeOff 15 = .ok (.putfield 68, 3) := by decide +kernel
theorem dX1_takeOff_18 : decode cX1_takeOff 18 = .ok (.aload_n 0, 1) := by decide +kernel
theorem dX1_takeOff_19 : decode cX1_takeOff 19 = .ok (.aload_n 0, 1) := by decide +kernel
theorem dX1_takeOff_20 : decode cX1_takeOff 20 = .ok (.getfield 68, 3) := by decide +kernel
theorem dX1_takeOff_23 : decode cX1_takeOff 23 = .ok (.iconst (-1), 1) := by decide +kernel
theorem dX1_takeOff_24 : decode cX1_takeOff 24 = .ok (.invokevirtual 126, 3) := by decide +kernel
theorem dX1_takeOff_27 : decode cX1_takeOff 27 = .ok (.aload_n 0, 1) := by decide +kernel
theorem dX1_takeOff_28 : decode cX1_takeOff 28 = .ok (.aload_n 0, 1) := by decide +kernel
theorem dX1_takeOff_29 : decode cX1_takeOff 29 = .ok (.getfield 28, 3) := by decide +kernel
theorem dX1_takeOff_32 : decode cX1_takeOff 32 = .ok (.aload_n 0, 1) := by decide +kernel
theorem dX1_takeOff_33 : decode cX1_takeOff 33 = .ok (.getfield 68, 3) := by decide +kernel
theorem dX1_takeOff_36 : decode cX1_takeOff 36 = .ok (.iaload, 1) := by decide +kernel
theorem dX1_takeOff_37 : decode cX1_takeOff 37 = .ok (.putfield 53, 3) := by decide +kernel
theorem dX1_takeOff_40 : decode cX1_takeOff 40 = .ok (.aload_n 0, 1) := by decide +kernel
theorem dX1_takeOff_41 : decode cX1_takeOff 41 = .ok (.aload_n 0, 1) := by decide +kernel
theorem dX1_takeOff_42 : decode cX1_takeOff 42 = .ok (.getfield 34, 3) := by decide +kernel
theorem dX1_takeOff_45 : decode cX1_takeOff 45 = .ok (.aload_n 0, 1) := by decide +kernel
theorem dX1_takeOff_46 : decode cX1_takeOff 46 = .ok (.getfield 68, 3) := by decide +kernel
theorem dX1_takeOff_49 : decode cX1_takeOff 49 = .ok (.iaload, 1) := by decide +kernel
theorem dX1_takeOff_50 : decode cX1_takeOff 50 = .ok (.putfield 56, 3) := by decide +kernel
theorem dX1_takeOff_53 : decode cX1_takeOff 53 = .ok (.return_, 1) := by decide +kernel
theorem dX1_takeAllOff_0 : decode cX1_takeAllOff 0 = .ok (.aload_n 0, 1) := by decide +kernel
theorem dX1_takeAllOff_1 : decode cX1_takeAllOff 1 = .ok (.getfield 56, 3) := by decide +kernel
theorem dX1_takeAllOff_4 : decode cX1_takeAllOff 4 = .ok (.istore_n 1, 1) := by decide +kernel
theorem dX1_takeAllOff_5 : decode cX1_takeAllOff 5 = .ok (.aload_n 0, 1) := by decide +kernel
theorem dX1_takeAllOff_6 : decode cX1_takeAllOff 6 = .ok (.getfield 68, 3) := by decide +kernel
theorem dX1_takeAllOff_9 : decode cX1_takeAllOff 9 = .ok (.istore_n 2, 1) := by decide +kernel
theorem dX1_takeAllOff_10 : decode cX1_takeAllOff 10 = .ok (.iload_n 2, 1) := by decide +kernel
theorem dX1_takeAllOff_11 : decode cX1_takeAllOff 11 = .ok (.ifCond .le 13, 3) := by decide +kernel
theorem dX1_takeAllOff_14 : decode cX1_takeAllOff 14 = .ok (.aload_n 0, 1) := by decide +kernel
theorem dX1_takeAllOff_15 : decode cX1_takeAllOff 15 = .ok (.invokevirtual 130, 3) := by decide +kernel
theorem dX1_takeAllOff_18 : decode cX1_takeAllOff 18 = .ok (.iinc 2 (-1), 3) := by decide +kernel
theorem dX1_takeAllOff_21 : decode cX1_takeAllOff 21 = .ok (.goto (-11), 3) := by decide +kernel
theorem dX1_takeAllOff_24 : decode cX1_takeAllOff 24 = .ok (.aload_n 0, 1) := by decide +kernel
theorem dX1_takeAllOff_25 : decode cX1_takeAllOff 25 = .ok (.iload_n 1, 1) := by decide +kernel
theorem dX1_takeAllOff_26 : decode cX1_takeAllOff 26 = .ok (.putfield 56, 3) := by decide +kernel
theorem dX1_takeAllOff_29 : decode cX1_takeAllOff 29 = .ok (.return_, 1) := by decide +kernel
theorem dX1_putThread_0 : decode cX1_putThread 0 = .ok (.aload_n 0, 1) := by decide +kernel
theorem dX1_putThread_1 : decode cX1_putThread 1 = .ok (.getfield 28, 3) := by decide +kernel
theorem dX1_putThread_4 : decode cX1_putThread 4 = .ok (.iload_n 1, 1) := by decide +kernel
theorem dX1_putThread_5 : decode cX1_putThread 5 = .ok (.iaload, 1) := by decide +kernel
theorem dX1_putThread_6 : decode cX1_putThread 6 = .ok (.aload_n 0, 1) := by decide +kernel
theorem dX1_putThread_7 : decode cX1_putThread 7 = .ok (.getfield 15, 3) := by decide +kernel
theorem dX1_putThread_10 : decode cX1_putThread 10 = .ok (.imul, 1) := by decide +kernel
theorem dX1_putThread_11 : decode cX1_putThread 11 = .ok (.aload_n 0, 1) := by decide +kernel
theorem dX1_putThread_12 : decode cX1_putThread 12 = .ok (.getfield 31, 3) := by decide +kernel
theorem dX1_putThread_15 : decode cX1_putThread 15 = .ok (.iload_n 1, 1) := by decide +kernel
theorem dX1_putThread_16 : decode cX1_putThread 16 = .ok (.iaload, 1) := by decide +kernel
theorem dX1_putThread_17 : decode cX1_putThread 17 = .ok (.aload_n 0, 1) := by decide +kernel
theorem dX1_putThread_18 : decode cX1_putThread 18 = .ok (.getfield 15, 3) := by decide +kernel
theorem dX1_putThread_21 : decode cX1_putThread 21 = .ok (.imul, 1) := by decide +kernel
theorem dX1_putThread_22 : decode cX1_putThread 22 = .ok (.invokestatic 77, 3) := by decide +kernel
theorem dX1_putThread_25 : decode cX1_putThread 25 = .ok (.istore_n 3, 1) := by decide +kernel
theorem dX1_putThread_26 : decode cX1_putThread 26 = .ok (.iload_n 3, 1) := by decide +kernel
theorem dX1_putThread_27 : decode cX1_putThread 27 = .ok (.iconst (-1), 1) := by decide +kernel
theorem dX1_putThread_28 : decode cX1_putThread 28 = .ok (.if_icmp .ne 4, 3) := by decide +kernel
theorem dX1_putThread_31 : decode cX1_putThread 31 = .ok (.return_, 1) := by decide +kernel
theorem dX1_putThread_32 : decode cX1_putThread 32 = .ok (.aload_n 0, 1) := by decide +kernel
theorem dX1_putThread_33 : decode cX1_putThread 33 = .ok (.aload_n 0, 1) := by decide +kernel
theorem dX1_putThread_34 : decode cX1_putThread 34 = .ok (.getfield 28, 3) := by decide +kernel
theorem dX1_putThread_37 : decode cX1_putThread 37 = .ok (.iload_n 1, 1) := by decide +kernel
theorem dX1_putThread_38 : decode cX1_putThread 38 = .ok (.iaload, 1) := by decide +kernel
theorem dX1_putThread_39 : decode cX1_putThread 39 = .ok (.aload_n 0, 1) := by decide +kernel
theorem dX1_putThread_40 : decode cX1_putThread 40 = .ok (.getfield 31, 3) := by decide +kernel
theorem dX1_putThread_43 : decode cX1_putThread 43 = .ok (.iload_n 1, 1) := by decide +kernel
theorem dX1_putThread_44 : decode cX1_putThread 44 = .ok (.iaload, 1) := by decide +kernel
theorem dX1_putThread_45 : decode cX1_putThread 45 = .ok (.invokevirtual 105, 3) := by decide +kernel
theorem dX1_putThread_48 : decode cX1_putThread 48 = .ok (.astore 4, 2) := by decide +kernel
theorem dX1_putThread_50 : decode cX1_putThread 50 = .ok (.aload_n 0, 1) := by decide +kernel
theorem dX1_putThread_51 : decode cX1_putThread 51 = .ok (.getfield 34, 3) := by decide +kernel
theorem dX1_putThread_54 : decode cX1_putThread 54 = .ok (.iload_n 1, 1) := by decide +kernel
theorem dX1_putThread_55 : decode cX1_putThread 55 = .ok (.iaload, 1) := by decide +kernel
theorem dX1_putThread_56 : decode cX1_putThread 56 = .ok (.istore 5, 2) := by decide +kernel
theorem dX1_putThread_58 : decode cX1_putThread 58 = .ok (.aload_n 0, 1) := by decide +kernel
theorem dX1_putThread_59 : decode cX1_putThread 59 = .ok (.getfield 46, 3) := by decide +kernel
theorem dX1_putThread_62 : decode cX1_putThread 62 = .ok (.iload_n 3, 1) := by decide +kernel
theorem dX1_putThread_63 : decode cX1_putThread 63 = .ok (.dup2, 1) := by decide +kernel
theorem dX1_putThread_64 : decode cX1_putThread 64 = .ok (.iaload, 1) := by decide +kernel
theorem dX1_putThread_65 : decode cX1_putThread 65 = .ok (.iload_n 2, 1) := by decide +kernel
theorem dX1_putThread_66 : decode cX1_putThread 66 = .ok (.iadd, 1) := by decide +kernel
theorem dX1_putThread_67 : decode cX1_putThread 67 = .ok (.iastore, 1) := by decide +kernel
theorem dX1_putThread_68 : decode cX1_putThread 68 = .ok (.aload_n 0, 1) := by decide +kernel
theorem dX1_putThread_69 : decode cX1_putThread 69 = .ok (.getfield 22, 3) := by decide +kernel
theorem dX1_putThread_72 : decode cX1_putThread 72 = .ok (.iload 5, 2) := by decide +kernel
theorem dX1_putThread_74 : decode cX1_putThread 74 = .ok (.dup2, 1) := by decide +kernel
theorem dX1_putThread_75 : decode cX1_putThread 75 = .ok (.iaload, 1) := by decide +kernel
theorem dX1_putThread_76 : decode cX1_putThread 76 = .ok (.iload_n 2, 1) := by decide +kernel
theorem dX1_putThread_77 : decode cX1_putThread 77 = .ok (.aload 4, 2) := by decide +kernel
theorem dX1_putThread_79 : decode cX1_putThread 79 = .ok (.getfield 108, 3) := by decide +kernel
theorem dX1_putThread_82 : decode cX1_putThread 82 = .ok (.imul, 1) := by decide +kernel
theorem dX1_putThread_83 : decode cX1_putThread 83 = .ok (.isub, 1) := by decide +kernel
theorem dX1_putThread_84 : decode cX1_putThread 84 = .ok (.iastore, 1) := by decide +kernel
theorem dX1_putThread_85 : decode cX1_putThread 85 = .ok (.aload 4, 2) := by decide +kernel
theorem dX1_putThread_87 : decode cX1_putThread 87 = .ok (.getfield 114, 3) := by decide +kernel
theorem dX1_putThread_90 : decode cX1_putThread 90 = .ok (.astore 6, 2) := by decide +kernel
theorem dX1_putThread_92 : decode cX1_putThread 92 = .ok (.aload 6, 2) := by decide +kernel
theorem dX1_putThread_94 : decode cX1_putThread 94 = .ok (.arraylength, 1) := by decide +kernel
theorem dX1_putThread_95 : decode cX1_putThread 95 = .ok (.istore 7, 2) := by decide +kernel
theorem dX1_putThread_97 : decode cX1_putThread 97 = .ok (.iconst 0, 1) := by decide +kernel
theorem dX1_putThread_98 : decode cX1_putThread 98 = .ok (.istore 8, 2) := by decide +kernel
theorem dX1_putThread_100 : decode cX1_putThread 100 = .ok (.iload 8, 2) := by decide +kernel
theorem dX1_putThread_102 : decode cX1_putThread 102 = .ok (.iload 7, 2) := by decide +kernel
theorem dX1_putThread_104 : decode cX1_putThread 104 = .ok (.if_icmp .ge 46, 3) := by decide +kernel
theorem dX1_putThread_107 : decode cX1_putThread 107 = .ok (.aload 6, 2) := by decide +kernel
theorem dX1_putThread_109 : decode cX1_putThread 109 = .ok (.iload 8, 2) := by decide +kernel
theorem dX1_putThread_111 : decode cX1_putThread 111 = .ok (.iaload, 1) := by decide +kernel
theorem dX1_putThread_112 : decode cX1_putThread 112 = .ok (.istore 9, 2) := by decide +kernel
theorem dX1_putThread_114 : decode cX1_putThread 114 = .ok (.aload_n 0, 1) := by decide +kernel
theorem dX1_putThread_115 : decode cX1_putThread 115 = .ok (.getfield 40, 3) := by decide +kernel
theorem dX1_putThread_118 : decode cX1_putThread 118 = .ok (.iload 9, 2) := by decide +kernel
theorem dX1_putThread_120 : decode cX1_putThread 120 = .ok (.dup2, 1) := by decide +kernel
theorem dX1_putThread_121 : decode cX1_putThread 121 = .ok (.iaload, 1) := by decide +kernel
theorem dX1_putThread_122 : decode cX1_putThread 122 = .ok (.iload_n 2, 1) := by decide +kernel
theorem dX1_putThread_123 : decode cX1_putThread 123 = .ok (.aload_n 0, 1) := by decide +kernel
theorem dX1_putThread_124 : decode cX1_putThread 124 = .ok (.getfield 18, 3) := by decide +kernel
theorem dX1_putThread_127 : decode cX1_putThread 127 = .ok (.iload 5, 2) := by decide +kernel
theorem dX1_putThread_129 : decode cX1_putThread 129 = .ok (.iaload, 1) := by decide +kernel
theorem dX1_putThread_130 : decode cX1_putThread 130 = .ok (.imul, 1) := by decide +kernel
theorem dX1_putThread_131 : decode cX1_putThread 131 = .ok (.iadd, 1) := by decide +kernel
theorem dX1_putThread_132 : decode cX1_putThread 132 = .ok (.iastore, 1) := by decide +kernel
theorem dX1_putThread_133 : decode cX1_putThread 133 = .ok (.aload_n 0, 1) := by decide +kernel
theorem dX1_putThread_134 : decode cX1_putThread 134 = .ok (.getfield 43, 3) := by decide +kernel
theorem dX1_putThread_137 : decode cX1_putThread 137 = .ok (.iload 9, 2) := by decide +kernel
theorem dX1_putThread_139 : decode cX1_putThread 139 = .ok (.dup2, 1) := by decide +kernel
theorem dX1_putThread_140 : decode cX1_putThread 140 = .ok (.iaload, 1) := by decide +kernel
theorem dX1_putThread_141 : decode cX1_putThread 141 = .ok (.iload_n 2, 1) := by decide +kernel
theorem dX1_putThread_142 : decode cX1_putThread 142 = .ok (.iadd, 1) := by decide +kernel
theorem dX1_putThread_143 : decode cX1_putThread 143 = .ok (.iastore, 1) := by decide +kernel
theorem dX1_putThread_144 : decode cX1_putThread 144 = .ok (.iinc 8 1, 3) := by decide +kernel
theorem dX1_putThread_147 : decode cX1_putThread 147 = .ok (.goto (-47), 3) := by decide +kernel
theorem dX1_putThread_150 : decode cX1_putThread 150 = .ok (.return_, 1) := by decide +kernel
theorem dX1_endsAt_0 : decode cX1_endsAt 0 = .ok (.iconst 0, 1) := by decide +kernel
theorem dX1_endsAt_1 : decode cX1_endsAt 1 = .ok (.istore_n 2, 1) := by decide +kernel
theorem dX1_endsAt_2 : decode cX1_endsAt 2 = .ok (.iconst 0, 1) := by decide +kernel
theorem dX1_endsAt_3 : decode cX1_endsAt 3 = .ok (.istore_n 3, 1) := by decide +kernel
theorem dX1_endsAt_4 : decode cX1_endsAt 4 = .ok (.iload_n 3, 1) := by decide +kernel
theorem dX1_endsAt_5 : decode cX1_endsAt 5 = .ok (.aload_n 0, 1) := by decide +kernel
theorem dX1_endsAt_6 : decode cX1_endsAt 6 = .ok (.getfield 68, 3) := by decide +kernel
theorem dX1_endsAt_9 : decode cX1_endsAt 9 = .ok (.if_icmp .ge 32, 3) := by decide +kernel
theorem dX1_endsAt_12 : decode cX1_endsAt 12 = .ok (.aload_n 0, 1) := by decide +kernel
theorem dX1_endsAt_13 : decode cX1_endsAt 13 = .ok (.getfield 28, 3) := by decide +kernel
theorem dX1_endsAt_16 : decode cX1_endsAt 16 = .ok (.iload_n 3, 1) := by decide +kernel
theorem dX1_endsAt_17 : decode cX1_endsAt 17 = .ok (.iaload, 1) := by decide +kernel
theorem dX1_endsAt_18 : decode cX1_endsAt 18 = .ok (.iload_n 1, 1) := by decide +kernel
theorem dX1_endsAt_19 : decode cX1_endsAt 19 = .ok (.if_icmp .eq 13, 3) := by decide +kernel
theorem dX1_endsAt_22 : decode cX1_endsAt 22 = .ok (.aload_n 0, 1) := by decide +kernel
theorem dX1_endsAt_23 : decode cX1_endsAt 23 = .ok (.getfield 31, 3) := by decide +kernel
theorem dX1_endsAt_26 : decode cX1_endsAt 26 = .ok (.iload_n 3, 1) := by decide +kernel
theorem dX1_endsAt_27 : decode cX1_endsAt 27 = .ok (.iaload, 1) := by decide +kernel
theorem dX1_endsAt_28 : decode cX1_endsAt 28 = .ok (.iload_n 1, 1) := by decide +kernel
theorem dX1_endsAt_29 : decode cX1_endsAt 29 = .ok (.if_icmp .ne 6, 3) := by decide +kernel
theorem dX1_endsAt_32 : decode cX1_endsAt 32 = .ok (.iinc 2 1, 3) := by decide +kernel
theorem dX1_endsAt_35 : decode cX1_endsAt 35 = .ok (.iinc 3 1, 3) := by decide +kernel
theorem dX1_endsAt_38 : decode cX1_endsAt 38 = .ok (.goto (-34), 3) := by decide +kernel
theorem dX1_endsAt_41 : decode cX1_endsAt 41 = .ok (.iload_n 2, 1) := by decide +kernel
theorem dX1_endsAt_42 : decode cX1_endsAt 42 = .ok (.ireturn, 1) := by decide +kernel
theorem dX1_chordsOf_0 : decode cX1_chordsOf 0 = .ok (.iconst 0, 1) := by decide +kernel
theorem dX1_chordsOf_1 : decode cX1_chordsOf 1 = .ok (.istore_n 2, 1) := by decide +kernel
theorem dX1_chordsOf_2 : decode cX1_chordsOf 2 = .ok (.iconst 0, 1) := by decide +kernel
theorem dX1_chordsOf_3 : decode cX1_chordsOf 3 = .ok (.istore_n 3, 1) := by decide +kernel
theorem dX1_chordsOf_4 : decode cX1_chordsOf 4 = .ok (.iload_n 3, 1) := by decide +kernel
theorem dX1_chordsOf_5 : decode cX1_chordsOf 5 = .ok (.aload_n 0, 1) := by decide +kernel
theorem dX1_chordsOf_6 : decode cX1_chordsOf 6 = .ok (.getfield 68, 3) := by decide +kernel
theorem dX1_chordsOf_9 : decode cX1_chordsOf 9 = .ok (.if_icmp .ge 22, 3) := by decide +kernel
theorem dX1_chordsOf_12 : decode cX1_chordsOf 12 = .ok (.aload_n 0, 1) := by decide +kernel
theorem dX1_chordsOf_13 : decode cX1_chordsOf 13 = .ok (.getfield 34, 3) := by decide +kernel
theorem dX1_chordsOf_16 : decode cX1_chordsOf 16 = .ok (.iload_n 3, 1) := by decide +kernel
theorem dX1_chordsOf_17 : decode cX1_chordsOf 17 = .ok (.iaload, 1) := by decide +kernel
theorem dX1_chordsOf_18 : decode cX1_chordsOf 18 = .ok (.iload_n 1, 1) := by decide +kernel
theorem dX1_chordsOf_19 : decode cX1_chordsOf 19 = .ok (.if_icmp .ne 6, 3) := by decide +kernel
theorem dX1_chordsOf_22 : decode cX1_chordsOf 22 = .ok (.iinc 2 1, 3) := by decide +kernel
theorem dX1_chordsOf_25 : decode cX1_chordsOf 25 = .ok (.iinc 3 1, 3) := by decide +kernel
theorem dX1_chordsOf_28 : decode cX1_chordsOf 28 = .ok (.goto (-24), 3) := by decide +kernel
theorem dX1_chordsOf_31 : decode cX1_chordsOf 31 = .ok (.iload_n 2, 1) := by decide +kernel
theorem dX1_chordsOf_32 : decode cX1_chordsOf 32 = .ok (.ireturn, 1) := by decide +kernel
theorem dX1_threadLying_0 : decode cX1_threadLying 0 = .ok (.iconst 0, 1) := by decide +kernel
theorem dX1_threadLying_1 : decode cX1_threadLying 1 = .ok (.istore_n 2, 1) := by decide +kernel
theorem dX1_threadLying_2 : decode cX1_threadLying 2 = .ok (.iconst 0, 1) := by decide +kernel
theorem dX1_threadLying_3 : decode cX1_threadLying 3 = .ok (.istore_n 3, 1) := by decide +kernel
theorem dX1_threadLying_4 : decode cX1_threadLying 4 = .ok (.iload_n 3, 1) := by decide +kernel
theorem dX1_threadLying_5 : decode cX1_threadLying 5 = .ok (.aload_n 0, 1) := by decide +kernel
theorem dX1_threadLying_6 : decode cX1_threadLying 6 = .ok (.getfield 68, 3) := by decide +kernel
theorem dX1_threadLying_9 : decode cX1_threadLying 9 = .ok (.if_icmp .ge 41, 3) := by decide +kernel
theorem dX1_threadLying_12 : decode cX1_threadLying 12 = .ok (.aload_n 0, 1) := by decide +kernel
theorem dX1_threadLying_13 : decode cX1_threadLying 13 = .ok (.getfield 34, 3) := by decide +kernel
theorem dX1_threadLying_16 : decode cX1_threadLying 16 = .ok (.iload_n 3, 1) := by decide +kernel
theorem dX1_threadLying_17 : decode cX1_threadLying 17 = .ok (.iaload, 1) := by decide +kernel
theorem dX1_threadLying_18 : decode cX1_threadLying 18 = .ok (.iload_n 1, 1) := by decide +kernel
theorem dX1_threadLying_19 : decode cX1_threadLying 19 = .ok (.if_icmp .ne 25, 3) := by decide +kernel
theorem dX1_threadLying_22 : decode cX1_threadLying 22 = .ok (.iload_n 2, 1) := by decide +kernel
theorem dX1_threadLying_23 : decode cX1_threadLying 23 = .ok (.aload_n 0, 1) := by decide +kernel
theorem dX1_threadLying_24 : decode cX1_threadLying 24 = .ok (.aload_n 0, 1) := by decide +kernel
theorem dX1_threadLying_25 : decode cX1_threadLying 25 = .ok (.getfield 28, 3) := by decide +kernel
theorem dX1_threadLying_28 : decode cX1_threadLying 28 = .ok (.iload_n 3, 1) := by decide +kernel
theorem dX1_threadLying_29 : decode cX1_threadLying 29 = .ok (.iaload, 1) := by decide +kernel
theorem dX1_threadLying_30 : decode cX1_threadLying 30 = .ok (.aload_n 0, 1) := by decide +kernel
theorem dX1_threadLying_31 : decode cX1_threadLying 31 = .ok (.getfield 31, 3) := by decide +kernel
theorem dX1_threadLying_34 : decode cX1_threadLying 34 = .ok (.iload_n 3, 1) := by decide +kernel
theorem dX1_threadLying_35 : decode cX1_threadLying 35 = .ok (.iaload, 1) := by decide +kernel
theorem dX1_threadLying_36 : decode cX1_threadLying 36 = .ok (.invokevirtual 105, 3) := by decide +kernel
theorem dX1_threadLying_39 : decode cX1_threadLying 39 = .ok (.getfield 108, 3) := by decide +kernel
theorem dX1_threadLying_42 : decode cX1_threadLying 42 = .ok (.iadd, 1) := by decide +kernel
theorem dX1_threadLying_43 : decode cX1_threadLying 43 = .ok (.istore_n 2, 1) := by decide +kernel
theorem dX1_threadLying_44 : decode cX1_threadLying 44 = .ok (.iinc 3 1, 3) := by decide +kernel
theorem dX1_threadLying_47 : decode cX1_threadLying 47 = .ok (.goto (-43), 3) := by decide +kernel
theorem dX1_threadLying_50 : decode cX1_threadLying 50 = .ok (.iload_n 2, 1) := by decide +kernel
theorem dX1_threadLying_51 : decode cX1_threadLying 51 = .ok (.ireturn, 1) := by decide +kernel
theorem dX2_init_0 : decode cX2_init 0 = .ok (.aload_n 0, 1) := by decide +kernel
theorem dX2_init_1 : decode cX2_init 1 = .ok (.invokespecial 3, 3) := by decide +kernel
theorem dX2_init_4 : decode cX2_init 4 = .ok (.aload_n 0, 1) := by decide +kernel
theorem dX2_init_5 : decode cX2_init 5 = .ok (.bipush 60, 2) := by decide +kernel
theorem dX2_init_7 : decode cX2_init 7 = .ok (.newarray .char, 2) := by decide +kernel
theorem dX2_init_9 : decode cX2_init 9 = .ok (.putfield 9, 3) := by decide +kernel
theorem dX2_init_12 : decode cX2_init 12 = .ok (.return_, 1) := by decide +kernel
theorem dX2_add_0 : decode cX2_add 0 = .ok (.aload_n 0, 1) := by decide +kernel
theorem dX2_add_1 : decode cX2_add 1 = .ok (.getfield 15, 3) := by decide +kernel
theorem dX2_add_4 : decode cX2_add 4 = .ok (.bipush 60, 2) := by decide +kernel
theorem dX2_add_6 : decode cX2_add 6 = .ok (.if_icmp .ge 23, 3) := by decide +kernel
theorem dX2_add_9 : decode cX2_add 9 = .ok (.aload_n 0, 1) := by decide +kernel
theorem dX2_add_10 : decode cX2_add 10 = .ok (.getfield 9, 3) := by decide +kernel
theorem dX2_add_13 : decode cX2_add 13 = .ok (.aload_n 0, 1) := by decide +kernel
theorem dX2_add_14 : decode cX2_add 14 = .ok (.getfield 15, 3) := by decide +kernel
theorem dX2_add_17 : decode cX2_add 17 = .ok (.iload_n 1, 1) := by decide +kernel
theorem dX2_add_18 : decode cX2_add 18 = .ok (.castore, 1) := by decide +kernel
theorem dX2_add_19 : decode cX2_add 19 = .ok (.aload_n 0, 1) := by decide +kernel
theorem dX2_add_20 : decode cX2_add 20 = .ok (.dup, 1) := by decide +kernel
theorem dX2_add_21 : decode cX2_add 21 = .ok (.getfield 15, 3) := by decide +kernel
theorem dX2_add_24 : decode cX2_add 24 = .ok (.iconst 1, 1) := by decide +kernel
theorem dX2_add_25 : decode cX2_add 25 = .ok (.iadd, 1) := by decide +kernel
theorem dX2_add_26 : decode cX2_add 26 = .ok (.putfield 15, 3) := by decide +kernel
theorem dX2_add_29 : decode cX2_add 29 = .ok (.return_, 1) := by decide +kernel
theorem dX2_isDigit_0 : decode cX2_isDigit 0 = .ok (.iload_n 0, 1) := by decide +kernel
theorem dX2_isDigit_1 : decode cX2_isDigit 1 = .ok (.bipush 48, 2) := by decide +kernel
theorem dX2_isDigit_3 : decode cX2_isDigit 3 = .ok (.if_icmp .lt 13, 3) := by decide +kernel
theorem dX2_isDigit_6 : decode cX2_isDigit 6 = .ok (.iload_n 0, 1) := by decide +kernel
theorem dX2_isDigit_7 : decode cX2_isDigit 7 = .ok (.bipush 57, 2) := by decide +kernel
theorem dX2_isDigit_9 : decode cX2_isDigit 9 = .ok (.if_icmp .gt 7, 3) := by decide +kernel
theorem dX2_isDigit_12 : decode cX2_isDigit 12 = .ok (.iconst 1, 1) := by decide +kernel
theorem dX2_isDigit_13 : decode cX2_isDigit 13 = .ok (.goto 4, 3) := by decide +kernel
theorem dX2_isDigit_16 : decode cX2_isDigit 16 = .ok (.iconst 0, 1) := by decide +kernel
theorem dX2_isDigit_17 : decode cX2_isDigit 17 = .ok (.ireturn, 1) := by decide +kernel
theorem dX2_isLetter_0 : decode cX2_isLetter 0 = .ok (.iload_n 0, 1) := by decide +kernel
theorem dX2_isLetter_1 : decode cX2_isLetter 1 = .ok (.bipush 97, 2) := by decide +kernel
theorem dX2_isLetter_3 : decode cX2_isLetter 3 = .ok (.if_icmp .lt 13, 3) := by decide +kernel
theorem dX2_isLetter_6 : decode cX2_isLetter 6 = .ok (.iload_n 0, 1) := by decide +kernel
theorem dX2_isLetter_7 : decode cX2_isLetter 7 = .ok (.bipush 108, 2) := by decide +kernel
theorem dX2_isLetter_9 : decode cX2_isLetter 9 = .ok (.if_icmp .gt 7, 3) := by decide +kernel
theorem dX2_isLetter_12 : decode cX2_isLetter 12 = .ok (.iconst 1, 1) := by decide +kernel
theorem dX2_isLetter_13 : decode cX2_isLetter 13 = .ok (.goto 4, 3) := by decide +kernel
theorem dX2_isLetter_16 : decode cX2_isLetter 16 = .ok (.iconst 0, 1) := by decide +kernel
theorem dX2_isLetter_17 : decode cX2_isLetter 17 = .ok (.ireturn, 1) := by decide +kernel
theorem dX2_endsRow_0 : decode cX2_endsRow 0 = .ok (.iload_n 0, 1) := by decide +kernel
theorem dX2_endsRow_1 : decode cX2_endsRow 1 = .ok (.bipush 15, 2) := by decide +kernel
theorem dX2_endsRow_3 : decode cX2_endsRow 3 = .ok (.if_icmp .eq 13, 3) := by decide +kernel
theorem dX2_endsRow_6 : decode cX2_endsRow 6 = .ok (.iload_n 0, 1) := by decide +kernel
theorem dX2_endsRow_7 : decode cX2_endsRow 7 = .ok (.ifCond .le 13, 3) := by decide +kernel
theorem dX2_endsRow_10 : decode cX2_endsRow 10 = .ok (.iload_n 0, 1) := by decide +kernel
theorem dX2_endsRow_11 : decode cX2_endsRow 11 = .ok (.bipush 12, 2) := by decide +kernel
theorem dX2_endsRow_13 : decode cX2_endsRow 13 = .ok (.if_icmp .gt 7, 3) := by decide +kernel
theorem dX2_endsRow_16 : decode cX2_endsRow 16 = .ok (.iconst 1, 1) := by decide +kernel
theorem dX2_endsRow_17 : decode cX2_endsRow 17 = .ok (.goto 4, 3) := by decide +kernel
theorem dX2_endsRow_20 : decode cX2_endsRow 20 = .ok (.iconst 0, 1) := by decide +kernel
theorem dX2_endsRow_21 : decode cX2_endsRow 21 = .ok (.ireturn, 1) := by decide +kernel
theorem dX2_stateBehind_0 : decode cX2_stateBehind 0 = .ok (.iload_n 0, 1) := by decide +kernel
theorem dX2_stateBehind_1 : decode cX2_stateBehind 1 = .ok (.bipush 13, 2) := by decide +kernel
theorem dX2_stateBehind_3 : decode cX2_stateBehind 3 = .ok (.if_icmp .ne 17, 3) := by decide +kernel
theorem dX2_stateBehind_6 : decode cX2_stateBehind 6 = .ok (.iload_n 1, 1) := by decide +kernel
theorem dX2_stateBehind_7 : decode cX2_stateBehind 7 = .ok (.invokestatic 19, 3) := by decide +kernel
theorem dX2_stateBehind_10 : decode cX2_stateBehind 10 = .ok (.ifCond .eq 7, 3) := by decide +kernel
theorem dX2_stateBehind_13 : decode cX2_stateBehind 13 = .ok (.iconst 0, 1) := by decide +kernel
theorem dX2_stateBehind_14 : decode cX2_stateBehind 14 = .ok (.goto 5, 3) := by decide +kernel
theorem dX2_stateBehind_17 : decode cX2_stateBehind 17 = .ok (.bipush 16, 2) := by decide +kernel
theorem dX2_stateBehind_19 : decode cX2_stateBehind 19 = .ok (.ireturn, 1) := by decide +kernel
theorem dX2_stateBehind_20 : decode cX2_stateBehind 20 = .ok (.iload_n 1, 1) := by decide +kernel
theorem dX2_stateBehind_21 : decode cX2_stateBehind 21 = .ok (.invokestatic 23, 3) := by decide +kernel
theorem dX2_stateBehind_24 : decode cX2_stateBehind 24 = .ok (.ifCond .eq 27, 3) := by decide +kernel
theorem dX2_stateBehind_27 : decode cX2_stateBehind 27 = .ok (.iload_n 0, 1) := by decide +kernel
theorem dX2_stateBehind_28 : decode cX2_stateBehind 28 = .ok (.bipush 14, 2) := by decide +kernel
theorem dX2_stateBehind_30 : decode cX2_stateBehind 30 = .ok (.if_icmp .ne 6, 3) := by decide +kernel
theorem dX2_stateBehind_33 : decode cX2_stateBehind 33 = .ok (.bipush 15, 2) := by decide +kernel
theorem dX2_stateBehind_35 : decode cX2_stateBehind 35 = .ok (.ireturn, 1) := by decide +kernel
theorem dX2_stateBehind_36 : decode cX2_stateBehind 36 = .ok (.iload_n 0, 1) := by decide +kernel
theorem dX2_stateBehind_37 : decode cX2_stateBehind 37 = .ok (.bipush 12, 2) := by decide +kernel
theorem dX2_stateBehind_39 : decode cX2_stateBehind 39 = .ok (.if_icmp .ge 9, 3) := by decide +kernel
theorem dX2_stateBehind_42 : decode cX2_stateBehind 42 = .ok (.iload_n 0, 1) := by decide +kernel
theorem dX2_stateBehind_43 : decode cX2_stateBehind 43 = .ok (.iconst 1, 1) := by decide +kernel
theorem dX2_stateBehind_44 : decode cX2_stateBehind 44 = .ok (.iadd, 1) := by decide +kernel
theorem dX2_stateBehind_45 : decode cX2_stateBehind 45 = .ok (.goto 5, 3) := by decide +kernel
theorem dX2_stateBehind_48 : decode cX2_stateBehind 48 = .ok (.bipush 16, 2) := by decide +kernel
theorem dX2_stateBehind_50 : decode cX2_stateBehind 50 = .ok (.ireturn, 1) := by decide +kernel
theorem dX2_stateBehind_51 : decode cX2_stateBehind 51 = .ok (.iload_n 1, 1) := by decide +kernel
theorem dX2_stateBehind_52 : decode cX2_stateBehind 52 = .ok (.bipush 42, 2) := by decide +kernel
theorem dX2_stateBehind_54 : decode cX2_stateBehind 54 = .ok (.if_icmp .ne 10, 3) := by decide +kernel
theorem dX2_stateBehind_57 : decode cX2_stateBehind 57 = .ok (.iload_n 0, 1) := by decide +kernel
theorem dX2_stateBehind_58 : decode cX2_stateBehind 58 = .ok (.ifCond .ne 6, 3) := by decide +kernel
theorem dX2_stateBehind_61 : decode cX2_stateBehind 61 = .ok (.bipush 14, 2) := by decide +kernel
theorem dX2_stateBehind_63 : decode cX2_stateBehind 63 = .ok (.ireturn, 1) := by decide +kernel
theorem dX2_stateBehind_64 : decode cX2_stateBehind 64 = .ok (.iload_n 1, 1) := by decide +kernel
theorem dX2_stateBehind_65 : decode cX2_stateBehind 65 = .ok (.bipush 59, 2) := by decide +kernel
theorem dX2_stateBehind_67 : decode cX2_stateBehind 67 = .ok (.if_icmp .ne 15, 3) := by decide +kernel
theorem dX2_stateBehind_70 : decode cX2_stateBehind 70 = .ok (.iload_n 0, 1) := by decide +kernel
theorem dX2_stateBehind_71 : decode cX2_stateBehind 71 = .ok (.invokestatic 26, 3) := by decide +kernel
theorem dX2_stateBehind_74 : decode cX2_stateBehind 74 = .ok (.ifCond .eq 8, 3) := by decide +kernel
theorem dX2_stateBehind_77 : decode cX2_stateBehind 77 = .ok (.bipush 13, 2) := by decide +kernel
theorem dX2_stateBehind_79 : decode cX2_stateBehind 79 = .ok (.goto 5, 3) := by decide +kernel
theorem dX2_stateBehind_82 : decode cX2_stateBehind 82 = .ok (.bipush 16, 2) := by decide +kernel
theorem dX2_stateBehind_84 : decode cX2_stateBehind 84 = .ok (.ireturn, 1) := by decide +kernel
theorem dX2_firstWrong_0 : decode cX2_firstWrong 0 = .ok (.bipush 13, 2) := by decide +kernel
theorem dX2_firstWrong_2 : decode cX2_firstWrong 2 = .ok (.istore_n 1, 1) := by decide +kernel
theorem dX2_firstWrong_3 : decode cX2_firstWrong 3 = .ok (.iconst 0, 1) := by decide +kernel
theorem dX2_firstWrong_4 : decode cX2_firstWrong 4 = .ok (.istore_n 2, 1) := by decide +kernel
theorem dX2_firstWrong_5 : decode cX2_firstWrong 5 = .ok (.iload_n 2, 1) := by decide +kernel
theorem dX2_firstWrong_6 : decode cX2_firstWrong 6 = .ok (.aload_n 0, 1) := by decide +kernel
theorem dX2_firstWrong_7 : decode cX2_firstWrong 7 = .ok (.getfield 15, 3) := by decide +kernel
theorem dX2_firstWrong_10 : decode cX2_firstWrong 10 = .ok (.if_icmp .ge 28, 3) := by decide +kernel
theorem dX2_firstWrong_13 : decode cX2_firstWrong 13 = .ok (.iload_n 1, 1) := by decide +kernel
theorem dX2_firstWrong_14 : decode cX2_firstWrong 14 = .ok (.aload_n 0, 1) := by decide +kernel
theorem dX2_firstWrong_15 : decode cX2_firstWrong 15 = .ok (.getfield 9, 3) := by decide +kernel
theorem dX2_firstWrong_18 : decode cX2_firstWrong 18 = .ok (.iload_n 2, 1) := by decide +kernel
theorem dX2_firstWrong_19 : decode cX2_firstWrong 19 = .ok (.caload, 1) := by decide +kernel
theorem dX2_firstWrong_20 : decode cX2_firstWrong 20 = .ok (.invokestatic 30, 3) := by decide +kernel
theorem dX2_firstWrong_23 : decode cX2_firstWrong 23 = .ok (.istore_n 1, 1) := by decide +kernel
theorem dX2_firstWrong_24 : decode cX2_firstWrong 24 = .ok (.iload_n 1, 1) := by decide +kernel
theorem dX2_firstWrong_25 : decode cX2_firstWrong 25 = .ok (.bipush 16, 2) := by decide +kernel
theorem dX2_firstWrong_27 : decode cX2_firstWrong 27 = .ok (.if_icmp .ne 5, 3) := by decide +kernel
theorem dX2_firstWrong_30 : decode cX2_firstWrong 30 = .ok (.iload_n 2, 1) := by decide +kernel
theorem dX2_firstWrong_31 : decode cX2_firstWrong 31 = .ok (.ireturn, 1) := by decide +kernel
theorem dX2_firstWrong_32 : decode cX2_firstWrong 32 = .ok (.iinc 2 1, 3) := by decide +kernel
theorem dX2_firstWrong_35 : decode cX2_firstWrong 35 = .ok (.goto (-30), 3) := by decide +kernel
theorem dX2_firstWrong_38 : decode cX2_firstWrong 38 = .ok (.aload_n 0, 1) := by decide +kernel
theorem dX2_firstWrong_39 : decode cX2_firstWrong 39 = .ok (.getfield 15, 3) := by decide +kernel
theorem dX2_firstWrong_42 : decode cX2_firstWrong 42 = .ok (.ireturn, 1) := by decide +kernel
theorem dX2_isFace_0 : decode cX2_isFace 0 = .ok (.bipush 13, 2) := by decide +kernel
theorem dX2_isFace_2 : decode cX2_isFace 2 = .ok (.istore_n 1, 1) := by decide +kernel
theorem dX2_isFace_3 : decode cX2_isFace 3 = .ok (.iconst 0, 1) := by decide +kernel
theorem dX2_isFace_4 : decode cX2_isFace 4 = .ok (.istore_n 2, 1) := by decide +kernel
theorem dX2_isFace_5 : decode cX2_isFace 5 = .ok (.iload_n 2, 1) := by decide +kernel
theorem dX2_isFace_6 : decode cX2_isFace 6 = .ok (.aload_n 0, 1) := by decide +kernel
theorem dX2_isFace_7 : decode cX2_isFace 7 = .ok (.getfield 15, 3) := by decide +kernel
theorem dX2_isFace_10 : decode cX2_isFace 10 = .ok (.if_icmp .ge 20, 3) := by decide +kernel
theorem dX2_isFace_13 : decode cX2_isFace 13 = .ok (.iload_n 1, 1) := by decide +kernel
theorem dX2_isFace_14 : decode cX2_isFace 14 = .ok (.aload_n 0, 1) := by decide +kernel
theorem dX2_isFace_15 : decode cX2_isFace 15 = .ok (.getfield 9, 3) := by decide +kernel
theorem dX2_isFace_18 : decode cX2_isFace 18 = .ok (.iload_n 2, 1) := by decide +kernel
theorem dX2_isFace_19 : decode cX2_isFace 19 = .ok (.caload, 1) := by decide +kernel
theorem dX2_isFace_20 : decode cX2_isFace 20 = .ok (.invokestatic 30, 3) := by decide +kernel
theorem dX2_isFace_23 : decode cX2_isFace 23 = .ok (.istore_n 1, 1) := by decide +kernel
theorem dX2_isFace_24 : decode cX2_isFace 24 = .ok (.iinc 2 1, 3) := by decide +kernel
theorem dX2_isFace_27 : decode cX2_isFace 27 = .ok (.goto (-22), 3) := by decide +kernel
theorem dX2_isFace_30 : decode cX2_isFace 30 = .ok (.iload_n 1, 1) := by decide +kernel
theorem dX2_isFace_31 : decode cX2_isFace 31 = .ok (.invokestatic 26, 3) := by decide +kernel
theorem dX2_isFace_34 : decode cX2_isFace 34 = .ok (.ireturn, 1) := by decide +kernel
theorem dX2_tellTo_0 : decode cX2_tellTo 0 = .ok (.iconst 0, 1) := by decide +kernel
theorem dX2_tellTo_1 : decode cX2_tellTo 1 = .ok (.istore_n 2, 1) := by decide +kernel
theorem dX2_tellTo_2 : decode cX2_tellTo 2 = .ok (.iconst 0, 1) := by decide +kernel
theorem dX2_tellTo_3 : decode cX2_tellTo 3 = .ok (.istore_n 3, 1) := by decide +kernel
theorem dX2_tellTo_4 : decode cX2_tellTo 4 = .ok (.iconst 0, 1) := by decide +kernel
theorem dX2_tellTo_5 : decode cX2_tellTo 5 = .ok (.istore 4, 2) := by decide +kernel
theorem dX2_tellTo_7 : decode cX2_tellTo 7 = .ok (.iconst 0, 1) := by decide +kernel
theorem dX2_tellTo_8 : decode cX2_tellTo 8 = .ok (.istore 5, 2) := by decide +kernel
theorem dX2_tellTo_10 : decode cX2_tellTo 10 = .ok (.iload 5, 2) := by decide +kernel
theorem dX2_tellTo_12 : decode cX2_tellTo 12 = .ok (.aload_n 0, 1) := by decide +kernel
theorem dX2_tellTo_13 : decode cX2_tellTo 13 = .ok (.getfield 15, 3) := by decide +kernel
theorem dX2_tellTo_16 : decode cX2_tellTo 16 = .ok (.if_icmp .ge 126, 3) := by decide +kernel
theorem dX2_tellTo_19 : decode cX2_tellTo 19 = .ok (.aload_n 0, 1) := by decide +kernel
theorem dX2_tellTo_20 : decode cX2_tellTo 20 = .ok (.getfield 9, 3) := by decide +kernel
theorem dX2_tellTo_23 : decode cX2_tellTo 23 = .ok (.iload 5, 2) := by decide +kernel
theorem dX2_tellTo_25 : decode cX2_tellTo 25 = .ok (.caload, 1) := by decide +kernel
theorem dX2_tellTo_26 : decode cX2_tellTo 26 = .ok (.istore 6, 2) := by decide +kernel
theorem dX2_tellTo_28 : decode cX2_tellTo 28 = .ok (.iload 6, 2) := by decide +kernel
theorem dX2_tellTo_30 : decode cX2_tellTo 30 = .ok (.invokestatic 19, 3) := by decide +kernel
theorem dX2_tellTo_33 : decode cX2_tellTo 33 = .ok (.ifCond .eq 20, 3) := by decide +kernel
theorem dX2_tellTo_36 : decode cX2_tellTo 36 = .ok (.iload 6, 2) := by decide +kernel
theorem dX2_tellTo_38 : decode cX2_tellTo 38 = .ok (.bipush 97, 2) := by decide +kernel
theorem dX2_tellTo_40 : decode cX2_tellTo 40 = .ok (.isub, 1) := by decide +kernel
theorem dX2_tellTo_41 : decode cX2_tellTo 41 = .ok (.bipush 12, 2) := by decide +kernel
theorem dX2_tellTo_43 : decode cX2_tellTo 43 = .ok (.imul, 1) := by decide +kernel
theorem dX2_tellTo_44 : decode cX2_tellTo 44 = .ok (.istore_n 2, 1) := by decide +kernel
theorem dX2_tellTo_45 : decode cX2_tellTo 45 = .ok (.iconst 0, 1) := by decide +kernel
theorem dX2_tellTo_46 : decode cX2_tellTo 46 = .ok (.istore_n 3, 1) := by decide +kernel
theorem dX2_tellTo_47 : decode cX2_tellTo 47 = .ok (.iconst 0, 1) := by decide +kernel
theorem dX2_tellTo_48 : decode cX2_tellTo 48 = .ok (.istore 4, 2) := by decide +kernel
theorem dX2_tellTo_50 : decode cX2_tellTo 50 = .ok (.goto 86, 3) := by decide +kernel
theorem dX2_tellTo_53 : decode cX2_tellTo 53 = .ok (.iload 6, 2) := by decide +kernel
theorem dX2_tellTo_55 : decode cX2_tellTo 55 = .ok (.bipush 42, 2) := by decide +kernel
theorem dX2_tellTo_57 : decode cX2_tellTo 57 = .ok (.if_icmp .ne 9, 3) := by decide +kernel
theorem dX2_tellTo_60 : decode cX2_tellTo 60 = .ok (.iconst 1, 1) := by decide +kernel
theorem dX2_tellTo_61 : decode cX2_tellTo 61 = .ok (.istore 4, 2) := by decide +kernel
theorem dX2_tellTo_63 : decode cX2_tellTo 63 = .ok (.goto 73, 3) := by decide +kernel
theorem dX2_tellTo_66 : decode cX2_tellTo 66 = .ok (.iload 6, 2) := by decide +kernel
theorem dX2_tellTo_68 : decode cX2_tellTo 68 = .ok (.invokestatic 23, 3) := by decide +kernel
theorem dX2_tellTo_71 : decode cX2_tellTo 71 = .ok (.ifCond .eq 38, 3) := by decide +kernel
theorem dX2_tellTo_74 : decode cX2_tellTo 74 = .ok (.iload 4, 2) := by decide +kernel
theorem dX2_tellTo_76 : decode cX2_tellTo 76 = .ok (.ifCond .eq 33, 3) := by decide +kernel
theorem dX2_tellTo_79 : decode cX2_tellTo 79 = .ok (.iconst 0, 1) := by decide +kernel
theorem dX2_tellTo_80 : decode cX2_tellTo 80 = .ok (.istore 7, 2) := by decide +kernel
theorem dX2_tellTo_82 : decode cX2_tellTo 82 = .ok (.iload 7, 2) := by decide +kernel
theorem dX2_tellTo_84 : decode cX2_tellTo 84 = .ok (.bipush 12, 2) := by decide +kernel
theorem dX2_tellTo_86 : decode cX2_tellTo 86 = .ok (.if_icmp .ge 20, 3) := by decide +kernel
theorem dX2_tellTo_89 : decode cX2_tellTo 89 = .ok (.aload_n 1, 1) := by decide +kernel
theorem dX2_tellTo_90 : decode cX2_tellTo 90 = .ok (.iload_n 2, 1) := by decide +kernel
theorem dX2_tellTo_91 : decode cX2_tellTo 91 = .ok (.iload 7, 2) := by decide +kernel
theorem dX2_tellTo_93 : decode cX2_tellTo 93 = .ok (.iadd, 1) := by decide +kernel
theorem dX2_tellTo_94 : decode cX2_tellTo 94 = .ok (.iload 6, 2) := by decide +kernel
theorem dX2_tellTo_96 : decode cX2_tellTo 96 = .ok (.bipush 48, 2) := by decide +kernel
theorem dX2_tellTo_98 : decode cX2_tellTo 98 = .ok (.isub, 1) := by decide +kernel
theorem dX2_tellTo_99 : decode cX2_tellTo 99 = .ok (.iastore, 1) := by decide +kernel
theorem dX2_tellTo_100 : decode cX2_tellTo 100 = .ok (.iinc 7 1, 3) := by decide +kernel
theorem dX2_tellTo_103 : decode cX2_tellTo 103 = .ok (.goto (-21), 3) := by decide +kernel
theorem dX2_tellTo_106 : decode cX2_tellTo 106 = .ok (.goto 30, 3) := by decide +kernel
theorem dX2_tellTo_109 : decode cX2_tellTo 109 = .ok (.iload 6, 2) := by decide +kernel
theorem dX2_tellTo_111 : decode cX2_tellTo 111 = .ok (.invokestatic 23, 3) := by decide +kernel
theorem dX2_tellTo_114 : decode cX2_tellTo 114 = .ok (.ifCond .eq 22, 3) := by decide +kernel
theorem dX2_tellTo_117 : decode cX2_tellTo 117 = .ok (.iload_n 3, 1) := by decide +kernel
theorem dX2_tellTo_118 : decode cX2_tellTo 118 = .ok (.bipush 12, 2) := by decide +kernel
theorem dX2_tellTo_120 : decode cX2_tellTo 120 = .ok (.if_icmp .ge 16, 3) := by decide +kernel
theorem dX2_tellTo_123 : decode cX2_tellTo 123 = .ok (.aload_n 1, 1) := by decide +kernel
theorem dX2_tellTo_124 : decode cX2_tellTo 124 = .ok (.iload_n 2, 1) := by decide +kernel
theorem dX2_tellTo_125 : decode cX2_tellTo 125 = .ok (.iload_n 3, 1) := by decide +kernel
theorem dX2_tellTo_126 : decode cX2_tellTo 126 = .ok (.iadd, 1) := by decide +kernel
theorem dX2_tellTo_127 : decode cX2_tellTo 127 = .ok (.iload 6, 2) := by decide +kernel
theorem dX2_tellTo_129 : decode cX2_tellTo 129 = .ok (.bipush 48, 2) := by decide +kernel
theorem dX2_tellTo_131 : decode cX2_tellTo 131 = .ok (.isub, 1) := by decide +kernel
theorem dX2_tellTo_132 : decode cX2_tellTo 132 = .ok (.iastore, 1) := by decide +kernel
theorem dX2_tellTo_133 : decode cX2_tellTo 133 = .ok (.iinc 3 1, 3) := by decide +kernel
theorem dX2_tellTo_136 : decode cX2_tellTo 136 = .ok (.iinc 5 1, 3) := by decide +kernel
theorem dX2_tellTo_139 : decode cX2_tellTo 139 = .ok (.goto (-129), 3) := by decide +kernel
theorem dX2_tellTo_142 : decode cX2_tellTo 142 = .ok (.return_, 1) := by decide +kernel
end
section
theorem dX3_init_0 : decode cX3_init 0 = .ok (.aload_n 0, 1) := by decide +kernel
theorem dX3_init_1 : decode cX3_init 1 = .ok (.invokespecial 3, 3) := by decide +kernel
theorem dX3_init_4 : decode cX3_init 4 = .ok (.aload_n 0, 1) := by decide +kernel
theorem dX3_init_5 : decode cX3_init 5 = .ok (.sipush 144, 3) := by decide +kernel
theorem dX3_init_8 : decode cX3_init 8 = .ok (.newarray .int, 2) := by decide +kernel
theorem dX3_init_10 : decode cX3_init 10 = .ok (.putfield 9, 3) := by decide +kernel
theorem dX3_init_13 : decode cX3_init 13 = .ok (.aload_n 0, 1) := by decide +kernel
theorem dX3_init_14 : decode cX3_init 14 = .ok (.new 13, 3) := by decide +kernel
theorem dX3_init_17 : decode cX3_init 17 = .ok (.dup, 1) := by decide +kernel
theorem dX3_init_18 : decode cX3_init 18 = .ok (.invokespecial 15, 3) := by decide +kernel
theorem dX3_init_21 : decode cX3_init 21 = .ok (.putfield 16, 3) := by decide +kernel
theorem dX3_init_24 : decode cX3_init 24 = .ok (.aload_n 0, 1) := by decide +kernel
theorem dX3_init_25 : decode cX3_init 25 = .ok (.iconst 2, 1) := by decide +kernel
theorem dX3_init_26 : decode cX3_init 26 = .ok (.anewarray 20, 3) := by decide +kernel
theorem dX3_init_29 : decode cX3_init 29 = .ok (.putfield 22, 3) := by decide +kernel
theorem dX3_init_32 : decode cX3_init 32 = .ok (.aload_n 0, 1) := by decide +kernel
theorem dX3_init_33 : decode cX3_init 33 = .ok (.bipush 6, 2) := by decide +kernel
theorem dX3_init_35 : decode cX3_init 35 = .ok (.anewarray 20, 3) := by decide +kernel
theorem dX3_init_38 : decode cX3_init 38 = .ok (.putfield 26, 3) := by decide +kernel
theorem dX3_init_41 : decode cX3_init 41 = .ok (.sipush 276, 3) := by decide +kernel
theorem dX3_init_44 : decode cX3_init 44 = .ok (.anewarray 29, 3) := by decide +kernel
theorem dX3_init_47 : decode cX3_init 47 = .ok (.astore_n 1, 1) := by decide +kernel
theorem dX3_init_48 : decode cX3_init 48 = .ok (.aload_n 0, 1) := by decide +kernel
theorem dX3_init_49 : decode cX3_init 49 = .ok (.new 20, 3) := by decide +kernel
theorem dX3_init_52 : decode cX3_init 52 = .ok (.dup, 1) := by decide +kernel
theorem dX3_init_53 : decode cX3_init 53 = .ok (.aload_n 1, 1) := by decide +kernel
theorem dX3_init_54 : decode cX3_init 54 = .ok (.invokespecial 31, 3) := by decide +kernel
theorem dX3_init_57 : decode cX3_init 57 = .ok (.putfield 34, 3) := by decide +kernel
theorem dX3_init_60 : decode cX3_init 60 = .ok (.aload_n 0, 1) := by decide +kernel
theorem dX3_init_61 : decode cX3_init 61 = .ok (.new 20, 3) := by decide +kernel
theorem dX3_init_64 : decode cX3_init 64 = .ok (.dup, 1) := by decide +kernel
theorem dX3_init_65 : decode cX3_init 65 = .ok (.aload_n 1, 1) := by decide +kernel
theorem dX3_init_66 : decode cX3_init 66 = .ok (.invokespecial 31, 3) := by decide +kernel
theorem dX3_init_69 : decode cX3_init 69 = .ok (.putfield 38, 3) := by decide +kernel
theorem dX3_init_72 : decode cX3_init 72 = .ok (.return_, 1) := by decide +kernel
theorem dX3_nails_0 : decode cX3_nails 0 = .ok (.iload_n 1, 1) := by decide +kernel
theorem dX3_nails_1 : decode cX3_nails 1 = .ok (.invokestatic 41, 3) := by decide +kernel
theorem dX3_nails_4 : decode cX3_nails 4 = .ok (.istore_n 2, 1) := by decide +kernel
theorem dX3_nails_5 : decode cX3_nails 5 = .ok (.iload_n 2, 1) := by decide +kernel
theorem dX3_nails_6 : decode cX3_nails 6 = .ok (.iconst (-1), 1) := by decide +kernel
theorem dX3_nails_7 : decode cX3_nails 7 = .ok (.if_icmp .ne 13, 3) := by decide +kernel
theorem dX3_nails_10 : decode cX3_nails 10 = .ok (.new 45, 3) := by decide +kernel
theorem dX3_nails_13 : decode cX3_nails 13 = .ok (.dup, 1) := by decide +kernel
theorem dX3_nails_14 : decode cX3_nails 14 = .ok (.ldc 47, 2) := by decide +kernel
theorem dX3_nails_16 : decode cX3_nails 16 = .ok (.invokespecial 49, 3) := by decide +kernel
theorem dX3_nails_19 : decode cX3_nails 19 = .ok (.athrow, 1) := by decide +kernel
theorem dX3_nails_20 : decode cX3_nails 20 = .ok (.aload_n 0, 1) := by decide +kernel
theorem dX3_nails_21 : decode cX3_nails 21 = .ok (.invokevirtual 52, 3) := by decide +kernel
theorem dX3_nails_24 : decode cX3_nails 24 = .ok (.aload_n 0, 1) := by decide +kernel
theorem dX3_nails_25 : decode cX3_nails 25 = .ok (.getfield 34, 3) := by decide +kernel
theorem dX3_nails_28 : decode cX3_nails 28 = .ok (.getfield 55, 3) := by decide +kernel
theorem dX3_nails_31 : decode cX3_nails 31 = .ok (.istore_n 3, 1) := by decide +kernel
theorem dX3_nails_32 : decode cX3_nails 32 = .ok (.aload_n 0, 1) := by decide +kernel
theorem dX3_nails_33 : decode cX3_nails 33 = .ok (.getfield 34, 3) := by decide +kernel
theorem dX3_nails_36 : decode cX3_nails 36 = .ok (.invokevirtual 59, 3) := by decide +kernel
theorem dX3_nails_39 : decode cX3_nails 39 = .ok (.aload_n 0, 1) := by decide +kernel
theorem dX3_nails_40 : decode cX3_nails 40 = .ok (.getfield 34, 3) := by decide +kernel
theorem dX3_nails_43 : decode cX3_nails 43 = .ok (.iload_n 1, 1) := by decide +kernel
theorem dX3_nails_44 : decode cX3_nails 44 = .ok (.putfield 55, 3) := by decide +kernel
theorem dX3_nails_47 : decode cX3_nails 47 = .ok (.aload_n 0, 1) := by decide +kernel
theorem dX3_nails_48 : decode cX3_nails 48 = .ok (.getfield 34, 3) := by decide +kernel
theorem dX3_nails_51 : decode cX3_nails 51 = .ok (.iload_n 2, 1) := by decide +kernel
theorem dX3_nails_52 : decode cX3_nails 52 = .ok (.putfield 62, 3) := by decide +kernel
theorem dX3_nails_55 : decode cX3_nails 55 = .ok (.aload_n 0, 1) := by decide +kernel
theorem dX3_nails_56 : decode cX3_nails 56 = .ok (.getfield 34, 3) := by decide +kernel
theorem dX3_nails_59 : decode cX3_nails 59 = .ok (.iconst 0, 1) := by decide +kernel
theorem dX3_nails_60 : decode cX3_nails 60 = .ok (.putfield 65, 3) := by decide +kernel
theorem dX3_nails_63 : decode cX3_nails 63 = .ok (.iload_n 3, 1) := by decide +kernel
theorem dX3_nails_64 : decode cX3_nails 64 = .ok (.ireturn, 1) := by decide +kernel
theorem dX3_spool_0 : decode cX3_spool 0 = .ok (.iload_n 1, 1) := by decide +kernel
theorem dX3_spool_1 : decode cX3_spool 1 = .ok (.invokestatic 68, 3) := by decide +kernel
theorem dX3_spool_4 : decode cX3_spool 4 = .ok (.iload_n 2, 1) := by decide +kernel
theorem dX3_spool_5 : decode cX3_spool 5 = .ok (.iconst 1, 1) := by decide +kernel
theorem dX3_spool_6 : decode cX3_spool 6 = .ok (.bipush 9, 2) := by decide +kernel
theorem dX3_spool_8 : decode cX3_spool 8 = .ok (.invokestatic 72, 3) := by decide +kernel
theorem dX3_spool_11 : decode cX3_spool 11 = .ok (.iload_n 3, 1) := by decide +kernel
theorem dX3_spool_12 : decode cX3_spool 12 = .ok (.iconst 0, 1) := by decide +kernel
theorem dX3_spool_13 : decode cX3_spool 13 = .ok (.sipush 9999, 3) := by decide +kernel
theorem dX3_spool_16 : decode cX3_spool 16 = .ok (.invokestatic 72, 3) := by decide +kernel
theorem dX3_spool_19 : decode cX3_spool 19 = .ok (.iload_n 1, 1) := by decide +kernel
theorem dX3_spool_20 : decode cX3_spool 20 = .ok (.aload_n 0, 1) := by decide +kernel
theorem dX3_spool_21 : decode cX3_spool 21 = .ok (.getfield 34, 3) := by decide +kernel
theorem dX3_spool_24 : decode cX3_spool 24 = .ok (.getfield 76, 3) := by decide +kernel
theorem dX3_spool_27 : decode cX3_spool 27 = .ok (.if_icmp .eq 14, 3) := by decide +kernel
theorem dX3_spool_30 : decode cX3_spool 30 = .ok (.aload_n 0, 1) := by decide +kernel
theorem dX3_spool_31 : decode cX3_spool 31 = .ok (.getfield 34, 3) := by decide +kernel
theorem dX3_spool_34 : decode cX3_spool 34 = .ok (.iload_n 1, 1) := by decide +kernel
theorem dX3_spool_35 : decode cX3_spool 35 = .ok (.invokevirtual 79, 3) := by decide +kernel
theorem dX3_spool_38 : decode cX3_spool 38 = .ok (.ifCond .le 13, 3) := by decide +kernel
theorem dX3_spool_41 : decode cX3_spool 41 = .ok (.new 82, 3) := by decide +kernel
theorem dX3_spool_44 : decode cX3_spool 44 = .ok (.dup, 1) := by decide +kernel
theorem dX3_spool_45 : decode cX3_spool 45 = .ok (.ldc 84, 2) := by decide +kernel
theorem dX3_spool_47 : decode cX3_spool 47 = .ok (.invokespecial 86, 3) := by decide +kernel
theorem dX3_spool_50 : decode cX3_spool 50 = .ok (.athrow, 1) := by decide +kernel
theorem dX3_spool_51 : decode cX3_spool 51 = .ok (.aload_n 0, 1) := by decide +kernel
theorem dX3_spool_52 : decode cX3_spool 52 = .ok (.invokevirtual 52, 3) := by decide +kernel
theorem dX3_spool_55 : decode cX3_spool 55 = .ok (.aload_n 0, 1) := by decide +kernel
theorem dX3_spool_56 : decode cX3_spool 56 = .ok (.getfield 34, 3) := by decide +kernel
theorem dX3_spool_59 : decode cX3_spool 59 = .ok (.getfield 87, 3) := by decide +kernel
theorem dX3_spool_62 : decode cX3_spool 62 = .ok (.iload_n 1, 1) := by decide +kernel
theorem dX3_spool_63 : decode cX3_spool 63 = .ok (.iaload, 1) := by decide +kernel
theorem dX3_spool_64 : decode cX3_spool 64 = .ok (.istore 4, 2) := by decide +kernel
theorem dX3_spool_66 : decode cX3_spool 66 = .ok (.aload_n 0, 1) := by decide +kernel
theorem dX3_spool_67 : decode cX3_spool 67 = .ok (.getfield 34, 3) := by decide +kernel
theorem dX3_spool_70 : decode cX3_spool 70 = .ok (.getfield 90, 3) := by decide +kernel
theorem dX3_spool_73 : decode cX3_spool 73 = .ok (.iload_n 1, 1) := by decide +kernel
theorem dX3_spool_74 : decode cX3_spool 74 = .ok (.iload_n 2, 1) := by decide +kernel
theorem dX3_spool_75 : decode cX3_spool 75 = .ok (.iastore, 1) := by decide +kernel
theorem dX3_spool_76 : decode cX3_spool 76 = .ok (.aload_n 0, 1) := by decide +kernel
theorem dX3_spool_77 : decode cX3_spool 77 = .ok (.getfield 34, 3) := by decide +kernel
theorem dX3_spool_80 : decode cX3_spool 80 = .ok (.getfield 87, 3) := by decide +kernel
theorem dX3_spool_83 : decode cX3_spool 83 = .ok (.iload_n 1, 1) := by decide +kernel
theorem dX3_spool_84 : decode cX3_spool 84 = .ok (.iload_n 3, 1) := by decide +kernel
theorem dX3_spool_85 : decode cX3_spool 85 = .ok (.iastore, 1) := by decide +kernel
theorem dX3_spool_86 : decode cX3_spool 86 = .ok (.iload 4, 2) := by decide +kernel
theorem dX3_spool_88 : decode cX3_spool 88 = .ok (.ireturn, 1) := by decide +kernel
theorem dX3_knot_0 : decode cX3_knot 0 = .ok (.iload_n 1, 1) := by decide +kernel
theorem dX3_knot_1 : decode cX3_knot 1 = .ok (.invokestatic 68, 3) := by decide +kernel
theorem dX3_knot_4 : decode cX3_knot 4 = .ok (.iload_n 1, 1) := by decide +kernel
theorem dX3_knot_5 : decode cX3_knot 5 = .ok (.aload_n 0, 1) := by decide +kernel
theorem dX3_knot_6 : decode cX3_knot 6 = .ok (.getfield 34, 3) := by decide +kernel
theorem dX3_knot_9 : decode cX3_knot 9 = .ok (.getfield 76, 3) := by decide +kernel
theorem dX3_knot_12 : decode cX3_knot 12 = .ok (.if_icmp .ne 13, 3) := by decide +kernel
theorem dX3_knot_15 : decode cX3_knot 15 = .ok (.new 82, 3) := by decide +kernel
theorem dX3_knot_18 : decode cX3_knot 18 = .ok (.dup, 1) := by decide +kernel
theorem dX3_knot_19 : decode cX3_knot 19 = .ok (.ldc 93, 2) := by decide +kernel
theorem dX3_knot_21 : decode cX3_knot 21 = .ok (.invokespecial 86, 3) := by decide +kernel
theorem dX3_knot_24 : decode cX3_knot 24 = .ok (.athrow, 1) := by decide +kernel
theorem dX3_knot_25 : decode cX3_knot 25 = .ok (.aload_n 0, 1) := by decide +kernel
theorem dX3_knot_26 : decode cX3_knot 26 = .ok (.invokevirtual 52, 3) := by decide +kernel
theorem dX3_knot_29 : decode cX3_knot 29 = .ok (.aload_n 0, 1) := by decide +kernel
theorem dX3_knot_30 : decode cX3_knot 30 = .ok (.getfield 34, 3) := by decide +kernel
theorem dX3_knot_33 : decode cX3_knot 33 = .ok (.iload_n 1, 1) := by decide +kernel
theorem dX3_knot_34 : decode cX3_knot 34 = .ok (.putfield 76, 3) := by decide +kernel
theorem dX3_knot_37 : decode cX3_knot 37 = .ok (.aload_n 0, 1) := by decide +kernel
theorem dX3_knot_38 : decode cX3_knot 38 = .ok (.getfield 34, 3) := by decide +kernel
theorem dX3_knot_41 : decode cX3_knot 41 = .ok (.dup, 1) := by decide +kernel
theorem dX3_knot_42 : decode cX3_knot 42 = .ok (.getfield 95, 3) := by decide +kernel
theorem dX3_knot_45 : decode cX3_knot 45 = .ok (.iconst 1, 1) := by decide +kernel
theorem dX3_knot_46 : decode cX3_knot 46 = .ok (.iadd, 1) := by decide +kernel
theorem dX3_knot_47 : decode cX3_knot 47 = .ok (.putfield 95, 3) := by decide +kernel
theorem dX3_knot_50 : decode cX3_knot 50 = .ok (.aload_n 0, 1) := by decide +kernel
theorem dX3_knot_51 : decode cX3_knot 51 = .ok (.getfield 34, 3) := by decide +kernel
theorem dX3_knot_54 : decode cX3_knot 54 = .ok (.getfield 95, 3) := by decide +kernel
theorem dX3_knot_57 : decode cX3_knot 57 = .ok (.ireturn, 1) := by decide +kernel
theorem dX3_set_0 : decode cX3_set 0 = .ok (.iload_n 1, 1) := by decide +kernel
theorem dX3_set_1 : decode cX3_set 1 = .ok (.invokestatic 98, 3) := by decide +kernel
theorem dX3_set_4 : decode cX3_set 4 = .ok (.iload_n 2, 1) := by decide +kernel
theorem dX3_set_5 : decode cX3_set 5 = .ok (.iconst 1, 1) := by decide +kernel
theorem dX3_set_6 : decode cX3_set 6 = .ok (.getstatic 101, 3) := by decide +kernel
theorem dX3_set_9 : decode cX3_set 9 = .ok (.iload_n 1, 1) := by decide +kernel
theorem dX3_set_10 : decode cX3_set 10 = .ok (.iaload, 1) := by decide +kernel
theorem dX3_set_11 : decode cX3_set 11 = .ok (.invokestatic 72, 3) := by decide +kernel
theorem dX3_set_14 : decode cX3_set 14 = .ok (.aload_n 0, 1) := by decide +kernel
theorem dX3_set_15 : decode cX3_set 15 = .ok (.invokevirtual 52, 3) := by decide +kernel
theorem dX3_set_18 : decode cX3_set 18 = .ok (.aload_n 0, 1) := by decide +kernel
theorem dX3_set_19 : decode cX3_set 19 = .ok (.getfield 34, 3) := by decide +kernel
theorem dX3_set_22 : decode cX3_set 22 = .ok (.getfield 104, 3) := by decide +kernel
theorem dX3_set_25 : decode cX3_set 25 = .ok (.iload_n 1, 1) := by decide +kernel
theorem dX3_set_26 : decode cX3_set 26 = .ok (.iaload, 1) := by decide +kernel
theorem dX3_set_27 : decode cX3_set 27 = .ok (.istore_n 3, 1) := by decide +kernel
theorem dX3_set_28 : decode cX3_set 28 = .ok (.aload_n 0, 1) := by decide +kernel
theorem dX3_set_29 : decode cX3_set 29 = .ok (.getfield 34, 3) := by decide +kernel
theorem dX3_set_32 : decode cX3_set 32 = .ok (.getfield 104, 3) := by decide +kernel
theorem dX3_set_35 : decode cX3_set 35 = .ok (.iload_n 1, 1) := by decide +kernel
theorem dX3_set_36 : decode cX3_set 36 = .ok (.iload_n 2, 1) := by decide +kernel
theorem dX3_set_37 : decode cX3_set 37 = .ok (.iastore, 1) := by decide +kernel
theorem dX3_set_38 : decode cX3_set 38 = .ok (.iload_n 3, 1) := by decide +kernel
theorem dX3_set_39 : decode cX3_set 39 = .ok (.ireturn, 1) := by decide +kernel
theorem dX3_wind_0 : decode cX3_wind 0 = .ok (.aload_n 0, 1) := by decide +kernel
theorem dX3_wind_1 : decode cX3_wind 1 = .ok (.iload_n 1, 1) := by decide +kernel
theorem dX3_wind_2 : decode cX3_wind 2 = .ok (.invokevirtual 107, 3) := by decide +kernel
theorem dX3_wind_5 : decode cX3_wind 5 = .ok (.aload_n 0, 1) := by decide +kernel
theorem dX3_wind_6 : decode cX3_wind 6 = .ok (.getfield 34, 3) := by decide +kernel
theorem dX3_wind_9 : decode cX3_wind 9 = .ok (.getfield 110, 3) := by decide +kernel
theorem dX3_wind_12 : decode cX3_wind 12 = .ok (.sipush 200, 3) := by decide +kernel
theorem dX3_wind_15 : decode cX3_wind 15 = .ok (.if_icmp .lt 13, 3) := by decide +kernel
theorem dX3_wind_18 : decode cX3_wind 18 = .ok (.new 82, 3) := by decide +kernel
theorem dX3_wind_21 : decode cX3_wind 21 = .ok (.dup, 1) := by decide +kernel
theorem dX3_wind_22 : decode cX3_wind 22 = .ok (.ldc 113, 2) := by decide +kernel
theorem dX3_wind_24 : decode cX3_wind 24 = .ok (.invokespecial 86, 3) := by decide +kernel
theorem dX3_wind_27 : decode cX3_wind 27 = .ok (.athrow, 1) := by decide +kernel
theorem dX3_wind_28 : decode cX3_wind 28 = .ok (.aload_n 0, 1) := by decide +kernel
theorem dX3_wind_29 : decode cX3_wind 29 = .ok (.invokevirtual 52, 3) := by decide +kernel
theorem dX3_wind_32 : decode cX3_wind 32 = .ok (.aload_n 0, 1) := by decide +kernel
theorem dX3_wind_33 : decode cX3_wind 33 = .ok (.getfield 34, 3) := by decide +kernel
theorem dX3_wind_36 : decode cX3_wind 36 = .ok (.iload_n 1, 1) := by decide +kernel
theorem dX3_wind_37 : decode cX3_wind 37 = .ok (.invokevirtual 115, 3) := by decide +kernel
theorem dX3_wind_40 : decode cX3_wind 40 = .ok (.istore_n 2, 1) := by decide +kernel
theorem dX3_wind_41 : decode cX3_wind 41 = .ok (.iload_n 2, 1) := by decide +kernel
theorem dX3_wind_42 : decode cX3_wind 42 = .ok (.ifCond .ne 27, 3) := by decide +kernel
theorem dX3_wind_45 : decode cX3_wind 45 = .ok (.aload_n 0, 1) := by decide +kernel
theorem dX3_wind_46 : decode cX3_wind 46 = .ok (.getfield 34, 3) := by decide +kernel
theorem dX3_wind_49 : decode cX3_wind 49 = .ok (.iload_n 1, 1) := by decide +kernel
theorem dX3_wind_50 : decode cX3_wind 50 = .ok (.invokevirtual 118, 3) := by decide +kernel
theorem dX3_wind_53 : decode cX3_wind 53 = .ok (.aload_n 0, 1) := by decide +kernel
theorem dX3_wind_54 : decode cX3_wind 54 = .ok (.getfield 34, 3) := by decide +kernel
theorem dX3_wind_57 : decode cX3_wind 57 = .ok (.dup, 1) := by decide +kernel
theorem dX3_wind_58 : decode cX3_wind 58 = .ok (.getfield 121, 3) := by decide +kernel
theorem dX3_wind_61 : decode cX3_wind 61 = .ok (.iconst 1, 1) := by decide +kernel
theorem dX3_wind_62 : decode cX3_wind 62 = .ok (.iadd, 1) := by decide +kernel
theorem dX3_wind_63 : decode cX3_wind 63 = .ok (.putfield 121, 3) := by decide +kernel
theorem dX3_wind_66 : decode cX3_wind 66 = .ok (.goto 16, 3) := by decide +kernel
theorem dX3_wind_69 : decode cX3_wind 69 = .ok (.aload_n 0, 1) := by decide +kernel
theorem dX3_wind_70 : decode cX3_wind 70 = .ok (.getfield 34, 3) := by decide +kernel
theorem dX3_wind_73 : decode cX3_wind 73 = .ok (.dup, 1) := by decide +kernel
theorem dX3_wind_74 : decode cX3_wind 74 = .ok (.getfield 124, 3) := by decide +kernel
theorem dX3_wind_77 : decode cX3_wind 77 = .ok (.iconst 1, 1) := by decide +kernel
theorem dX3_wind_78 : decode cX3_wind 78 = .ok (.iadd, 1) := by decide +kernel
theorem dX3_wind_79 : decode cX3_wind 79 = .ok (.putfield 124, 3) := by decide +kernel
theorem dX3_wind_82 : decode cX3_wind 82 = .ok (.iload_n 2, 1) := by decide +kernel
theorem dX3_wind_83 : decode cX3_wind 83 = .ok (.ireturn, 1) := by decide +kernel
theorem dX3_unwind_0 : decode cX3_unwind 0 = .ok (.aload_n 0, 1) := by decide +kernel
theorem dX3_unwind_1 : decode cX3_unwind 1 = .ok (.getfield 34, 3) := by decide +kernel
theorem dX3_unwind_4 : decode cX3_unwind 4 = .ok (.getfield 110, 3) := by decide +kernel
theorem dX3_unwind_7 : decode cX3_unwind 7 = .ok (.ifCond .ne 13, 3) := by decide +kernel
theorem dX3_unwind_10 : decode cX3_unwind 10 = .ok (.new 82, 3) := by decide +kernel
theorem dX3_unwind_13 : decode cX3_unwind 13 = .ok (.dup, 1) := by decide +kernel
theorem dX3_unwind_14 : decode cX3_unwind 14 = .ok (.ldc 127, 2) := by decide +kernel
theorem dX3_unwind_16 : decode cX3_unwind 16 = .ok (.invokespecial 86, 3) := by decide +kernel
theorem dX3_unwind_19 : decode cX3_unwind 19 = .ok (.athrow, 1) := by decide +kernel
theorem dX3_unwind_20 : decode cX3_unwind 20 = .ok (.aload_n 0, 1) := by decide +kernel
theorem dX3_unwind_21 : decode cX3_unwind 21 = .ok (.invokevirtual 52, 3) := by decide +kernel
theorem dX3_unwind_24 : decode cX3_unwind 24 = .ok (.aload_n 0, 1) := by decide +kernel
theorem dX3_unwind_25 : decode cX3_unwind 25 = .ok (.getfield 34, 3) := by decide +kernel
theorem dX3_unwind_28 : decode cX3_unwind 28 = .ok (.invokevirtual 129, 3) := by decide +kernel
theorem dX3_unwind_31 : decode cX3_unwind 31 = .ok (.aload_n 0, 1) := by decide +kernel
theorem dX3_unwind_32 : decode cX3_unwind 32 = .ok (.getfield 34, 3) := by decide +kernel
theorem dX3_unwind_35 : decode cX3_unwind 35 = .ok (.getfield 65, 3) := by decide +kernel
theorem dX3_unwind_38 : decode cX3_unwind 38 = .ok (.ireturn, 1) := by decide +kernel
theorem dX3_windBest_0 : decode cX3_windBest 0 = .ok (.iload_n 1, 1) := by decide +kernel
theorem dX3_windBest_1 : decode cX3_windBest 1 = .ok (.iconst 1, 1) := by decide +kernel
theorem dX3_windBest_2 : decode cX3_windBest 2 = .ok (.bipush 50, 2) := by decide +kernel
theorem dX3_windBest_4 : decode cX3_windBest 4 = .ok (.invokestatic 72, 3) := by decide +kernel
theorem dX3_windBest_7 : decode cX3_windBest 7 = .ok (.aload_n 0, 1) := by decide +kernel
theorem dX3_windBest_8 : decode cX3_windBest 8 = .ok (.invokevirtual 52, 3) := by decide +kernel
theorem dX3_windBest_11 : decode cX3_windBest 11 = .ok (.iconst 0, 1) := by decide +kernel
theorem dX3_windBest_12 : decode cX3_windBest 12 = .ok (.istore_n 2, 1) := by decide +kernel
theorem dX3_windBest_13 : decode cX3_windBest 13 = .ok (.iload_n 2, 1) := by decide +kernel
theorem dX3_windBest_14 : decode cX3_windBest 14 = .ok (.iload_n 1, 1) := by decide +kernel
theorem dX3_windBest_15 : decode cX3_windBest 15 = .ok (.if_icmp .ge 69, 3) := by decide +kernel
theorem dX3_windBest_18 : decode cX3_windBest 18 = .ok (.aload_n 0, 1) := by decide +kernel
theorem dX3_windBest_19 : decode cX3_windBest 19 = .ok (.getfield 34, 3) := by decide +kernel
theorem dX3_windBest_22 : decode cX3_windBest 22 = .ok (.invokevirtual 132, 3) := by decide +kernel
theorem dX3_windBest_25 : decode cX3_windBest 25 = .ok (.istore_n 3, 1) := by decide +kernel
theorem dX3_windBest_26 : decode cX3_windBest 26 = .ok (.iload_n 3, 1) := by decide +kernel
theorem dX3_windBest_27 : decode cX3_windBest 27 = .ok (.iconst (-1), 1) := by decide +kernel
theorem dX3_windBest_28 : decode cX3_windBest 28 = .ok (.if_icmp .eq 27, 3) := by decide +kernel
theorem dX3_windBest_31 : decode cX3_windBest 31 = .ok (.aload_n 0, 1) := by decide +kernel
theorem dX3_windBest_32 : decode cX3_windBest 32 = .ok (.getfield 34, 3) := by decide +kernel
theorem dX3_windBest_35 : decode cX3_windBest 35 = .ok (.getfield 110, 3) := by decide +kernel
theorem dX3_windBest_38 : decode cX3_windBest 38 = .ok (.sipush 200, 3) := by decide +kernel
theorem dX3_windBest_41 : decode cX3_windBest 41 = .ok (.if_icmp .ge 14, 3) := by decide +kernel
theorem dX3_windBest_44 : decode cX3_windBest 44 = .ok (.aload_n 0, 1) := by decide +kernel
theorem dX3_windBest_45 : decode cX3_windBest 45 = .ok (.getfield 34, 3) := by decide +kernel
theorem dX3_windBest_48 : decode cX3_windBest 48 = .ok (.iload_n 3, 1) := by decide +kernel
theorem dX3_windBest_49 : decode cX3_windBest 49 = .ok (.invokevirtual 136, 3) := by decide +kernel
theorem dX3_windBest_52 : decode cX3_windBest 52 = .ok (.ifCond .gt 5, 3) := by decide +kernel
theorem dX3_windBest_55 : decode cX3_windBest 55 = .ok (.iload_n 2, 1) := by decide +kernel
theorem dX3_windBest_56 : decode cX3_windBest 56 = .ok (.ireturn, 1) := by decide +kernel
theorem dX3_windBest_57 : decode cX3_windBest 57 = .ok (.aload_n 0, 1) := by decide +kernel
theorem dX3_windBest_58 : decode cX3_windBest 58 = .ok (.getfield 34, 3) := by decide +kernel
theorem dX3_windBest_61 : decode cX3_windBest 61 = .ok (.iload_n 3, 1) := by decide +kernel
theorem dX3_windBest_62 : decode cX3_windBest 62 = .ok (.invokevirtual 118, 3) := by decide +kernel
theorem dX3_windBest_65 : decode cX3_windBest 65 = .ok (.aload_n 0, 1) := by decide +kernel
theorem dX3_windBest_66 : decode cX3_windBest 66 = .ok (.getfield 34, 3) := by decide +kernel
theorem dX3_windBest_69 : decode cX3_windBest 69 = .ok (.dup, 1) := by decide +kernel
theorem dX3_windBest_70 : decode cX3_windBest 70 = .ok (.getfield 121, 3) := by decide +kernel
theorem dX3_windBest_73 : decode cX3_windBest 73 = .ok (.iconst 1, 1) := by decide +kernel
theorem dX3_windBest_74 : decode cX3_windBest 74 = .ok (.iadd, 1) := by decide +kernel
theorem dX3_windBest_75 : decode cX3_windBest 75 = .ok (.putfield 121, 3) := by decide +kernel
theorem dX3_windBest_78 : decode cX3_windBest 78 = .ok (.iinc 2 1, 3) := by decide +kernel
theorem dX3_windBest_81 : decode cX3_windBest 81 = .ok (.goto (-68), 3) := by decide +kernel
theorem dX3_windBest_84 : decode cX3_windBest 84 = .ok (.iload_n 1, 1) := by decide +kernel
theorem dX3_windBest_85 : decode cX3_windBest 85 = .ok (.ireturn, 1) := by decide +kernel
theorem dX3_want_0 : decode cX3_want 0 = .ok (.iload_n 1, 1) := by decide +kernel
theorem dX3_want_1 : decode cX3_want 1 = .ok (.iload_n 2, 1) := by decide +kernel
theorem dX3_want_2 : decode cX3_want 2 = .ok (.invokestatic 139, 3) := by decide +kernel
theorem dX3_want_5 : decode cX3_want 5 = .ok (.iload_n 3, 1) := by decide +kernel
theorem dX3_want_6 : decode cX3_want 6 = .ok (.iconst 0, 1) := by decide +kernel
theorem dX3_want_7 : decode cX3_want 7 = .ok (.bipush 9, 2) := by decide +kernel
theorem dX3_want_9 : decode cX3_want 9 = .ok (.invokestatic 72, 3) := by decide +kernel
theorem dX3_want_12 : decode cX3_want 12 = .ok (.aload_n 0, 1) := by decide +kernel
theorem dX3_want_13 : decode cX3_want 13 = .ok (.invokevirtual 52, 3) := by decide +kernel
theorem dX3_want_16 : decode cX3_want 16 = .ok (.iload_n 2, 1) := by decide +kernel
theorem dX3_want_17 : decode cX3_want 17 = .ok (.bipush 12, 2) := by decide +kernel
theorem dX3_want_19 : decode cX3_want 19 = .ok (.imul, 1) := by decide +kernel
theorem dX3_want_20 : decode cX3_want 20 = .ok (.iload_n 1, 1) := by decide +kernel
theorem dX3_want_21 : decode cX3_want 21 = .ok (.iadd, 1) := by decide +kernel
theorem dX3_want_22 : decode cX3_want 22 = .ok (.istore 4, 2) := by decide +kernel
theorem dX3_want_24 : decode cX3_want 24 = .ok (.aload_n 0, 1) := by decide +kernel
theorem dX3_want_25 : decode cX3_want 25 = .ok (.getfield 34, 3) := by decide +kernel
theorem dX3_want_28 : decode cX3_want 28 = .ok (.getfield 143, 3) := by decide +kernel
theorem dX3_want_31 : decode cX3_want 31 = .ok (.iload 4, 2) := by decide +kernel
theorem dX3_want_33 : decode cX3_want 33 = .ok (.iaload, 1) := by decide +kernel
theorem dX3_want_34 : decode cX3_want 34 = .ok (.istore 5, 2) := by decide +kernel
theorem dX3_want_36 : decode cX3_want 36 = .ok (.aload_n 0, 1) := by decide +kernel
theorem dX3_want_37 : decode cX3_want 37 = .ok (.getfield 34, 3) := by decide +kernel
theorem dX3_want_40 : decode cX3_want 40 = .ok (.getfield 143, 3) := by decide +kernel
theorem dX3_want_43 : decode cX3_want 43 = .ok (.iload 4, 2) := by decide +kernel
theorem dX3_want_45 : decode cX3_want 45 = .ok (.iload_n 3, 1) := by decide +kernel
theorem dX3_want_46 : decode cX3_want 46 = .ok (.iastore, 1) := by decide +kernel
theorem dX3_want_47 : decode cX3_want 47 = .ok (.iload 5, 2) := by decide +kernel
theorem dX3_want_49 : decode cX3_want 49 = .ok (.ireturn, 1) := by decide +kernel
theorem dX3_turnFace_0 : decode cX3_turnFace 0 = .ok (.iload_n 1, 1) := by decide +kernel
theorem dX3_turnFace_1 : decode cX3_turnFace 1 = .ok (.iconst 0, 1) := by decide +kernel
theorem dX3_turnFace_2 : decode cX3_turnFace 2 = .ok (.iconst 2, 1) := by decide +kernel
theorem dX3_turnFace_3 : decode cX3_turnFace 3 = .ok (.invokestatic 72, 3) := by decide +kernel
theorem dX3_turnFace_6 : decode cX3_turnFace 6 = .ok (.aload_n 0, 1) := by decide +kernel
theorem dX3_turnFace_7 : decode cX3_turnFace 7 = .ok (.invokevirtual 52, 3) := by decide +kernel
theorem dX3_turnFace_10 : decode cX3_turnFace 10 = .ok (.aload_n 0, 1) := by decide +kernel
theorem dX3_turnFace_11 : decode cX3_turnFace 11 = .ok (.getfield 34, 3) := by decide +kernel
theorem dX3_turnFace_14 : decode cX3_turnFace 14 = .ok (.getfield 143, 3) := by decide +kernel
theorem dX3_turnFace_17 : decode cX3_turnFace 17 = .ok (.iconst 0, 1) := by decide +kernel
theorem dX3_turnFace_18 : decode cX3_turnFace 18 = .ok (.aload_n 0, 1) := by decide +kernel
theorem dX3_turnFace_19 : decode cX3_turnFace 19 = .ok (.getfield 9, 3) := by decide +kernel
theorem dX3_turnFace_22 : decode cX3_turnFace 22 = .ok (.iconst 0, 1) := by decide +kernel
theorem dX3_turnFace_23 : decode cX3_turnFace 23 = .ok (.sipush 144, 3) := by decide +kernel
theorem dX3_turnFace_26 : decode cX3_turnFace 26 = .ok (.invokestatic 146, 3) := by decide +kernel
theorem dX3_turnFace_29 : decode cX3_turnFace 29 = .ok (.iconst 0, 1) := by decide +kernel
theorem dX3_turnFace_30 : decode cX3_turnFace 30 = .ok (.istore_n 2, 1) := by decide +kernel
theorem dX3_turnFace_31 : decode cX3_turnFace 31 = .ok (.iload_n 2, 1) := by decide +kernel
theorem dX3_turnFace_32 : decode cX3_turnFace 32 = .ok (.bipush 12, 2) := by decide +kernel
theorem dX3_turnFace_34 : decode cX3_turnFace 34 = .ok (.if_icmp .ge 112, 3) := by decide +kernel
theorem dX3_turnFace_37 : decode cX3_turnFace 37 = .ok (.iconst 0, 1) := by decide +kernel
theorem dX3_turnFace_38 : decode cX3_turnFace 38 = .ok (.istore_n 3, 1) := by decide +kernel
theorem dX3_turnFace_39 : decode cX3_turnFace 39 = .ok (.iload_n 3, 1) := by decide +kernel
theorem dX3_turnFace_40 : decode cX3_turnFace 40 = .ok (.bipush 12, 2) := by decide +kernel
theorem dX3_turnFace_42 : decode cX3_turnFace 42 = .ok (.if_icmp .ge 98, 3) := by decide +kernel
theorem dX3_turnFace_45 : decode cX3_turnFace 45 = .ok (.aload_n 0, 1) := by decide +kernel
theorem dX3_turnFace_46 : decode cX3_turnFace 46 = .ok (.getfield 9, 3) := by decide +kernel
theorem dX3_turnFace_49 : decode cX3_turnFace 49 = .ok (.iload_n 2, 1) := by decide +kernel
theorem dX3_turnFace_50 : decode cX3_turnFace 50 = .ok (.bipush 12, 2) := by decide +kernel
theorem dX3_turnFace_52 : decode cX3_turnFace 52 = .ok (.imul, 1) := by decide +kernel
theorem dX3_turnFace_53 : decode cX3_turnFace 53 = .ok (.iload_n 3, 1) := by decide +kernel
theorem dX3_turnFace_54 : decode cX3_turnFace 54 = .ok (.iadd, 1) := by decide +kernel
theorem dX3_turnFace_55 : decode cX3_turnFace 55 = .ok (.iaload, 1) := by decide +kernel
theorem dX3_turnFace_56 : decode cX3_turnFace 56 = .ok (.istore 4, 2) := by decide +kernel
theorem dX3_turnFace_58 : decode cX3_turnFace 58 = .ok (.iload_n 1, 1) := by decide +kernel
theorem dX3_turnFace_59 : decode cX3_turnFace 59 = .ok (.ifCond .ne 27, 3) := by decide +kernel
theorem dX3_turnFace_62 : decode cX3_turnFace 62 = .ok (.aload_n 0, 1) := by decide +kernel
theorem dX3_turnFace_63 : decode cX3_turnFace 63 = .ok (.getfield 34, 3) := by decide +kernel
theorem dX3_turnFace_66 : decode cX3_turnFace 66 = .ok (.getfield 143, 3) := by decide +kernel
theorem dX3_turnFace_69 : decode cX3_turnFace 69 = .ok (.iload_n 3, 1) := by decide +kernel
theorem dX3_turnFace_70 : decode cX3_turnFace 70 = .ok (.bipush 12, 2) := by decide +kernel
theorem dX3_turnFace_72 : decode cX3_turnFace 72 = .ok (.imul, 1) := by decide +kernel
theorem dX3_turnFace_73 : decode cX3_turnFace 73 = .ok (.bipush 12, 2) := by decide +kernel
theorem dX3_turnFace_75 : decode cX3_turnFace 75 = .ok (.iadd, 1) := by decide +kernel
theorem dX3_turnFace_76 : decode cX3_turnFace 76 = .ok (.iconst 1, 1) := by decide +kernel
theorem dX3_turnFace_77 : decode cX3_turnFace 77 = .ok (.isub, 1) := by decide +kernel
theorem dX3_turnFace_78 : decode cX3_turnFace 78 = .ok (.iload_n 2, 1) := by decide +kernel
theorem dX3_turnFace_79 : decode cX3_turnFace 79 = .ok (.isub, 1) := by decide +kernel
theorem dX3_turnFace_80 : decode cX3_turnFace 80 = .ok (.iload 4, 2) := by decide +kernel
theorem dX3_turnFace_82 : decode cX3_turnFace 82 = .ok (.iastore, 1) := by decide +kernel
theorem dX3_turnFace_83 : decode cX3_turnFace 83 = .ok (.goto 51, 3) := by decide +kernel
theorem dX3_turnFace_86 : decode cX3_turnFace 86 = .ok (.iload_n 1, 1) := by decide +kernel
theorem dX3_turnFace_87 : decode cX3_turnFace 87 = .ok (.iconst 1, 1) := by decide +kernel
theorem dX3_turnFace_88 : decode cX3_turnFace 88 = .ok (.if_icmp .ne 27, 3) := by decide +kernel
theorem dX3_turnFace_91 : decode cX3_turnFace 91 = .ok (.aload_n 0, 1) := by decide +kernel
theorem dX3_turnFace_92 : decode cX3_turnFace 92 = .ok (.getfield 34, 3) := by decide +kernel
theorem dX3_turnFace_95 : decode cX3_turnFace 95 = .ok (.getfield 143, 3) := by decide +kernel
theorem dX3_turnFace_98 : decode cX3_turnFace 98 = .ok (.iload_n 2, 1) := by decide +kernel
theorem dX3_turnFace_99 : decode cX3_turnFace 99 = .ok (.bipush 12, 2) := by decide +kernel
theorem dX3_turnFace_101 : decode cX3_turnFace 101 = .ok (.imul, 1) := by decide +kernel
theorem dX3_turnFace_102 : decode cX3_turnFace 102 = .ok (.bipush 12, 2) := by decide +kernel
theorem dX3_turnFace_104 : decode cX3_turnFace 104 = .ok (.iadd, 1) := by decide +kernel
theorem dX3_turnFace_105 : decode cX3_turnFace 105 = .ok (.iconst 1, 1) := by decide +kernel
theorem dX3_turnFace_106 : decode cX3_turnFace 106 = .ok (.isub, 1) := by decide +kernel
theorem dX3_turnFace_107 : decode cX3_turnFace 107 = .ok (.iload_n 3, 1) := by decide +kernel
theorem dX3_turnFace_108 : decode cX3_turnFace 108 = .ok (.isub, 1) := by decide +kernel
theorem dX3_turnFace_109 : decode cX3_turnFace 109 = .ok (.iload 4, 2) := by decide +kernel
theorem dX3_turnFace_111 : decode cX3_turnFace 111 = .ok (.iastore, 1) := by decide +kernel
theorem dX3_turnFace_112 : decode cX3_turnFace 112 = .ok (.goto 22, 3) := by decide +kernel
theorem dX3_turnFace_115 : decode cX3_turnFace 115 = .ok (.aload_n 0, 1) := by decide +kernel
theorem dX3_turnFace_116 : decode cX3_turnFace 116 = .ok (.getfield 34, 3) := by decide +kernel
theorem dX3_turnFace_119 : decode cX3_turnFace 119 = .ok (.getfield 143, 3) := by decide +kernel
theorem dX3_turnFace_122 : decode cX3_turnFace 122 = .ok (.iload_n 2, 1) := by decide +kernel
theorem dX3_turnFace_123 : decode cX3_turnFace 123 = .ok (.bipush 12, 2) := by decide +kernel
theorem dX3_turnFace_125 : decode cX3_turnFace 125 = .ok (.imul, 1) := by decide +kernel
theorem dX3_turnFace_126 : decode cX3_turnFace 126 = .ok (.iload_n 3, 1) := by decide +kernel
theorem dX3_turnFace_127 : decode cX3_turnFace 127 = .ok (.iadd, 1) := by decide +kernel
theorem dX3_turnFace_128 : decode cX3_turnFace 128 = .ok (.bipush 9, 2) := by decide +kernel
theorem dX3_turnFace_130 : decode cX3_turnFace 130 = .ok (.iload 4, 2) := by decide +kernel
theorem dX3_turnFace_132 : decode cX3_turnFace 132 = .ok (.isub, 1) := by decide +kernel
theorem dX3_turnFace_133 : decode cX3_turnFace 133 = .ok (.iastore, 1) := by decide +kernel
theorem dX3_turnFace_134 : decode cX3_turnFace 134 = .ok (.iinc 3 1, 3) := by decide +kernel
theorem dX3_turnFace_137 : decode cX3_turnFace 137 = .ok (.goto (-98), 3) := by decide +kernel
theorem dX3_turnFace_140 : decode cX3_turnFace 140 = .ok (.iinc 2 1, 3) := by decide +kernel
theorem dX3_turnFace_143 : decode cX3_turnFace 143 = .ok (.goto (-112), 3) := by decide +kernel
theorem dX3_turnFace_146 : decode cX3_turnFace 146 = .ok (.aload_n 0, 1) := by decide +kernel
theorem dX3_turnFace_147 : decode cX3_turnFace 147 = .ok (.getfield 34, 3) := by decide +kernel
theorem dX3_turnFace_150 : decode cX3_turnFace 150 = .ok (.invokevirtual 152, 3) := by decide +kernel
theorem dX3_turnFace_153 : decode cX3_turnFace 153 = .ok (.ireturn, 1) := by decide +kernel
theorem dX3_append_0 : decode cX3_append 0 = .ok (.iload_n 1, 1) := by decide +kernel
theorem dX3_append_1 : decode cX3_append 1 = .ok (.bipush 33, 2) := by decide +kernel
theorem dX3_append_3 : decode cX3_append 3 = .ok (.bipush 126, 2) := by decide +kernel
theorem dX3_append_5 : decode cX3_append 5 = .ok (.invokestatic 72, 3) := by decide +kernel
theorem dX3_append_8 : decode cX3_append 8 = .ok (.aload_n 0, 1) := by decide +kernel
theorem dX3_append_9 : decode cX3_append 9 = .ok (.getfield 16, 3) := by decide +kernel
theorem dX3_append_12 : decode cX3_append 12 = .ok (.getfield 155, 3) := by decide +kernel
theorem dX3_append_15 : decode cX3_append 15 = .ok (.bipush 60, 2) := by decide +kernel
theorem dX3_append_17 : decode cX3_append 17 = .ok (.if_icmp .lt 13, 3) := by decide +kernel
theorem dX3_append_20 : decode cX3_append 20 = .ok (.new 82, 3) := by decide +kernel
theorem dX3_append_23 : decode cX3_append 23 = .ok (.dup, 1) := by decide +kernel
theorem dX3_append_24 : decode cX3_append 24 = .ok (.ldc 158, 2) := by decide +kernel
theorem dX3_append_26 : decode cX3_append 26 = .ok (.invokespecial 86, 3) := by decide +kernel
theorem dX3_append_29 : decode cX3_append 29 = .ok (.athrow, 1) := by decide +kernel
theorem dX3_append_30 : decode cX3_append 30 = .ok (.aload_n 0, 1) := by decide +kernel
theorem dX3_append_31 : decode cX3_append 31 = .ok (.getfield 16, 3) := by decide +kernel
theorem dX3_append_34 : decode cX3_append 34 = .ok (.iload_n 1, 1) := by decide +kernel
theorem dX3_append_35 : decode cX3_append 35 = .ok (.i2c, 1) := by decide +kernel
theorem dX3_append_36 : decode cX3_append 36 = .ok (.invokevirtual 160, 3) := by decide +kernel
theorem dX3_append_39 : decode cX3_append 39 = .ok (.aload_n 0, 1) := by decide +kernel
theorem dX3_append_40 : decode cX3_append 40 = .ok (.getfield 16, 3) := by decide +kernel
theorem dX3_append_43 : decode cX3_append 43 = .ok (.getfield 155, 3) := by decide +kernel
theorem dX3_append_46 : decode cX3_append 46 = .ok (.ireturn, 1) := by decide +kernel
theorem dX3_clearBuffer_0 : decode cX3_clearBuffer 0 = .ok (.aload_n 0, 1) := by decide +kernel
theorem dX3_clearBuffer_1 : decode cX3_clearBuffer 1 = .ok (.getfield 16, 3) := by decide +kernel
theorem dX3_clearBuffer_4 : decode cX3_clearBuffer 4 = .ok (.getfield 155, 3) := by decide +kernel
theorem dX3_clearBuffer_7 : decode cX3_clearBuffer 7 = .ok (.istore_n 1, 1) := by decide +kernel
theorem dX3_clearBuffer_8 : decode cX3_clearBuffer 8 = .ok (.aload_n 0, 1) := by decide +kernel
theorem dX3_clearBuffer_9 : decode cX3_clearBuffer 9 = .ok (.getfield 16, 3) := by decide +kernel
theorem dX3_clearBuffer_12 : decode cX3_clearBuffer 12 = .ok (.iconst 0, 1) := by decide +kernel
theorem dX3_clearBuffer_13 : decode cX3_clearBuffer 13 = .ok (.putfield 155, 3) := by decide +kernel
theorem dX3_clearBuffer_16 : decode cX3_clearBuffer 16 = .ok (.iload_n 1, 1) := by decide +kernel
theorem dX3_clearBuffer_17 : decode cX3_clearBuffer 17 = .ok (.ireturn, 1) := by decide +kernel
theorem dX3_firstError_0 : decode cX3_firstError 0 = .ok (.aload_n 0, 1) := by decide +kernel
theorem dX3_firstError_1 : decode cX3_firstError 1 = .ok (.getfield 16, 3) := by decide +kernel
theorem dX3_firstError_4 : decode cX3_firstError 4 = .ok (.invokevirtual 164, 3) := by decide +kernel
theorem dX3_firstError_7 : decode cX3_firstError 7 = .ok (.ireturn, 1) := by decide +kernel
theorem dX3_load_0 : decode cX3_load 0 = .ok (.aload_n 0, 1) := by decide +kernel
theorem dX3_load_1 : decode cX3_load 1 = .ok (.getfield 16, 3) := by decide +kernel
theorem dX3_load_4 : decode cX3_load 4 = .ok (.invokevirtual 167, 3) := by decide +kernel
theorem dX3_load_7 : decode cX3_load 7 = .ok (.ifCond .ne 13, 3) := by decide +kernel
theorem dX3_load_10 : decode cX3_load 10 = .ok (.new 45, 3) := by decide +kernel
theorem dX3_load_13 : decode cX3_load 13 = .ok (.dup, 1) := by decide +kernel
theorem dX3_load_14 : decode cX3_load 14 = .ok (.ldc 171, 2) := by decide +kernel
theorem dX3_load_16 : decode cX3_load 16 = .ok (.invokespecial 49, 3) := by decide +kernel
theorem dX3_load_19 : decode cX3_load 19 = .ok (.athrow, 1) := by decide +kernel
theorem dX3_load_20 : decode cX3_load 20 = .ok (.aload_n 0, 1) := by decide +kernel
theorem dX3_load_21 : decode cX3_load 21 = .ok (.invokevirtual 52, 3) := by decide +kernel
theorem dX3_load_24 : decode cX3_load 24 = .ok (.aload_n 0, 1) := by decide +kernel
theorem dX3_load_25 : decode cX3_load 25 = .ok (.getfield 34, 3) := by decide +kernel
theorem dX3_load_28 : decode cX3_load 28 = .ok (.getfield 143, 3) := by decide +kernel
theorem dX3_load_31 : decode cX3_load 31 = .ok (.iconst 0, 1) := by decide +kernel
theorem dX3_load_32 : decode cX3_load 32 = .ok (.aload_n 0, 1) := by decide +kernel
theorem dX3_load_33 : decode cX3_load 33 = .ok (.getfield 9, 3) := by decide +kernel
theorem dX3_load_36 : decode cX3_load 36 = .ok (.iconst 0, 1) := by decide +kernel
theorem dX3_load_37 : decode cX3_load 37 = .ok (.sipush 144, 3) := by decide +kernel
theorem dX3_load_40 : decode cX3_load 40 = .ok (.invokestatic 146, 3) := by decide +kernel
theorem dX3_load_43 : decode cX3_load 43 = .ok (.aload_n 0, 1) := by decide +kernel
theorem dX3_load_44 : decode cX3_load 44 = .ok (.getfield 16, 3) := by decide +kernel
theorem dX3_load_47 : decode cX3_load 47 = .ok (.aload_n 0, 1) := by decide +kernel
theorem dX3_load_48 : decode cX3_load 48 = .ok (.getfield 34, 3) := by decide +kernel
theorem dX3_load_51 : decode cX3_load 51 = .ok (.getfield 143, 3) := by decide +kernel
theorem dX3_load_54 : decode cX3_load 54 = .ok (.invokevirtual 173, 3) := by decide +kernel
theorem dX3_load_57 : decode cX3_load 57 = .ok (.aload_n 0, 1) := by decide +kernel
theorem dX3_load_58 : decode cX3_load 58 = .ok (.getfield 16, 3) := by decide +kernel
theorem dX3_load_61 : decode cX3_load 61 = .ok (.iconst 0, 1) := by decide +kernel
theorem dX3_load_62 : decode cX3_load 62 = .ok (.putfield 155, 3) := by decide +kernel
theorem dX3_load_65 : decode cX3_load 65 = .ok (.iconst 0, 1) := by decide +kernel
theorem dX3_load_66 : decode cX3_load 66 = .ok (.istore_n 1, 1) := by decide +kernel
theorem dX3_load_67 : decode cX3_load 67 = .ok (.iconst 0, 1) := by decide +kernel
theorem dX3_load_68 : decode cX3_load 68 = .ok (.istore_n 2, 1) := by decide +kernel
theorem dX3_load_69 : decode cX3_load 69 = .ok (.iload_n 2, 1) := by decide +kernel
theorem dX3_load_70 : decode cX3_load 70 = .ok (.sipush 144, 3) := by decide +kernel
theorem dX3_load_73 : decode cX3_load 73 = .ok (.if_icmp .ge 30, 3) := by decide +kernel
theorem dX3_load_76 : decode cX3_load 76 = .ok (.aload_n 0, 1) := by decide +kernel
theorem dX3_load_77 : decode cX3_load 77 = .ok (.getfield 34, 3) := by decide +kernel
theorem dX3_load_80 : decode cX3_load 80 = .ok (.getfield 143, 3) := by decide +kernel
theorem dX3_load_83 : decode cX3_load 83 = .ok (.iload_n 2, 1) := by decide +kernel
theorem dX3_load_84 : decode cX3_load 84 = .ok (.iaload, 1) := by decide +kernel
theorem dX3_load_85 : decode cX3_load 85 = .ok (.aload_n 0, 1) := by decide +kernel
theorem dX3_load_86 : decode cX3_load 86 = .ok (.getfield 9, 3) := by decide +kernel
theorem dX3_load_89 : decode cX3_load 89 = .ok (.iload_n 2, 1) := by decide +kernel
theorem dX3_load_90 : decode cX3_load 90 = .ok (.iaload, 1) := by decide +kernel
theorem dX3_load_91 : decode cX3_load 91 = .ok (.if_icmp .eq 6, 3) := by decide +kernel
theorem dX3_load_94 : decode cX3_load 94 = .ok (.iinc 1 1, 3) := by decide +kernel
theorem dX3_load_97 : decode cX3_load 97 = .ok (.iinc 2 1, 3) := by decide +kernel
theorem dX3_load_100 : decode cX3_load 100 = .ok (.goto (-31), 3) := by decide +kernel
theorem dX3_load_103 : decode cX3_load 103 = .ok (.iload_n 1, 1) := by decide +kernel
theorem dX3_load_104 : decode cX3_load 104 = .ok (.ireturn, 1) := by decide +kernel
theorem dX3_keep_0 : decode cX3_keep 0 = .ok (.iload_n 1, 1) := by decide +kernel
theorem dX3_keep_1 : decode cX3_keep 1 = .ok (.iconst 0, 1) := by decide +kernel
theorem dX3_keep_2 : decode cX3_keep 2 = .ok (.iconst 1, 1) := by decide +kernel
theorem dX3_keep_3 : decode cX3_keep 3 = .ok (.invokestatic 72, 3) := by decide +kernel
theorem dX3_keep_6 : decode cX3_keep 6 = .ok (.aload_n 0, 1) := by decide +kernel
theorem dX3_keep_7 : decode cX3_keep 7 = .ok (.aload_n 0, 1) := by decide +kernel
theorem dX3_keep_8 : decode cX3_keep 8 = .ok (.getfield 22, 3) := by decide +kernel
theorem dX3_keep_11 : decode cX3_keep 11 = .ok (.iload_n 1, 1) := by decide +kernel
theorem dX3_keep_12 : decode cX3_keep 12 = .ok (.invokevirtual 177, 3) := by decide +kernel
theorem dX3_keep_15 : decode cX3_keep 15 = .ok (.aload_n 0, 1) := by decide +kernel
theorem dX3_keep_16 : decode cX3_keep 16 = .ok (.getfield 34, 3) := by decide +kernel
theorem dX3_keep_19 : decode cX3_keep 19 = .ok (.getfield 110, 3) := by decide +kernel
theorem dX3_keep_22 : decode cX3_keep 22 = .ok (.ireturn, 1) := by decide +kernel
theorem dX3_goBack_0 : decode cX3_goBack 0 = .ok (.iload_n 1, 1) := by decide +kernel
theorem dX3_goBack_1 : decode cX3_goBack 1 = .ok (.iconst 0, 1) := by decide +kernel
theorem dX3_goBack_2 : decode cX3_goBack 2 = .ok (.iconst 1, 1) := by decide +kernel
theorem dX3_goBack_3 : decode cX3_goBack 3 = .ok (.invokestatic 72, 3) := by decide +kernel
theorem dX3_goBack_6 : decode cX3_goBack 6 = .ok (.aload_n 0, 1) := by decide +kernel
theorem dX3_goBack_7 : decode cX3_goBack 7 = .ok (.getfield 22, 3) := by decide +kernel
theorem dX3_goBack_10 : decode cX3_goBack 10 = .ok (.iload_n 1, 1) := by decide +kernel
theorem dX3_goBack_11 : decode cX3_goBack 11 = .ok (.aaload, 1) := by decide +kernel
theorem dX3_goBack_12 : decode cX3_goBack 12 = .ok (.astore_n 2, 1) := by decide +kernel
theorem dX3_goBack_13 : decode cX3_goBack 13 = .ok (.aload_n 2, 1) := by decide +kernel
theorem dX3_goBack_14 : decode cX3_goBack 14 = .ok (.ifnonnull 13, 3) := by decide +kernel
theorem dX3_goBack_17 : decode cX3_goBack 17 = .ok (.new 82, 3) := by decide +kernel
theorem dX3_goBack_20 : decode cX3_goBack 20 = .ok (.dup, 1) := by decide +kernel
theorem dX3_goBack_21 : decode cX3_goBack 21 = .ok (.ldc 181, 2) := by decide +kernel
theorem dX3_goBack_23 : decode cX3_goBack 23 = .ok (.invokespecial 86, 3) := by decide +kernel
theorem dX3_goBack_26 : decode cX3_goBack 26 = .ok (.athrow, 1) := by decide +kernel
theorem dX3_goBack_27 : decode cX3_goBack 27 = .ok (.aload_n 0, 1) := by decide +kernel
theorem dX3_goBack_28 : decode cX3_goBack 28 = .ok (.invokevirtual 52, 3) := by decide +kernel
theorem dX3_goBack_31 : decode cX3_goBack 31 = .ok (.aload_n 0, 1) := by decide +kernel
theorem dX3_goBack_32 : decode cX3_goBack 32 = .ok (.getfield 34, 3) := by decide +kernel
theorem dX3_goBack_35 : decode cX3_goBack 35 = .ok (.aload_n 2, 1) := by decide +kernel
theorem dX3_goBack_36 : decode cX3_goBack 36 = .ok (.invokevirtual 183, 3) := by decide +kernel
theorem dX3_goBack_39 : decode cX3_goBack 39 = .ok (.aload_n 0, 1) := by decide +kernel
theorem dX3_goBack_40 : decode cX3_goBack 40 = .ok (.getfield 34, 3) := by decide +kernel
theorem dX3_goBack_43 : decode cX3_goBack 43 = .ok (.getfield 110, 3) := by decide +kernel
theorem dX3_goBack_46 : decode cX3_goBack 46 = .ok (.ireturn, 1) := by decide +kernel
theorem dX3_undo_0 : decode cX3_undo 0 = .ok (.aload_n 0, 1) := by decide +kernel
theorem dX3_undo_1 : decode cX3_undo 1 = .ok (.getfield 187, 3) := by decide +kernel
theorem dX3_undo_4 : decode cX3_undo 4 = .ok (.ifCond .le 17, 3) := by decide +kernel
theorem dX3_undo_7 : decode cX3_undo 7 = .ok (.aload_n 0, 1) := by decide +kernel
theorem dX3_undo_8 : decode cX3_undo 8 = .ok (.getfield 26, 3) := by decide +kernel
theorem dX3_undo_11 : decode cX3_undo 11 = .ok (.aload_n 0, 1) := by decide +kernel
theorem dX3_undo_12 : decode cX3_undo 12 = .ok (.getfield 187, 3) := by decide +kernel
theorem dX3_undo_15 : decode cX3_undo 15 = .ok (.iconst 1, 1) := by decide +kernel
theorem dX3_undo_16 : decode cX3_undo 16 = .ok (.isub, 1) := by decide +kernel
theorem dX3_undo_17 : decode cX3_undo 17 = .ok (.aaload, 1) := by decide +kernel
theorem dX3_undo_18 : decode cX3_undo 18 = .ok (.goto 4, 3) := by decide +kernel
theorem dX3_undo_21 : decode cX3_undo 21 = .ok (.aconst_null, 1) := by decide +kernel
theorem dX3_undo_22 : decode cX3_undo 22 = .ok (.astore_n 1, 1) := by decide +kernel
theorem dX3_undo_23 : decode cX3_undo 23 = .ok (.aload_n 1, 1) := by decide +kernel
theorem dX3_undo_24 : decode cX3_undo 24 = .ok (.ifnonnull 13, 3) := by decide +kernel
theorem dX3_undo_27 : decode cX3_undo 27 = .ok (.new 82, 3) := by decide +kernel
theorem dX3_undo_30 : decode cX3_undo 30 = .ok (.dup, 1) := by decide +kernel
theorem dX3_undo_31 : decode cX3_undo 31 = .ok (.ldc 190, 2) := by decide +kernel
theorem dX3_undo_33 : decode cX3_undo 33 = .ok (.invokespecial 86, 3) := by decide +kernel
theorem dX3_undo_36 : decode cX3_undo 36 = .ok (.athrow, 1) := by decide +kernel
theorem dX3_undo_37 : decode cX3_undo 37 = .ok (.aload_n 0, 1) := by decide +kernel
theorem dX3_undo_38 : decode cX3_undo 38 = .ok (.getfield 34, 3) := by decide +kernel
theorem dX3_undo_41 : decode cX3_undo 41 = .ok (.aload_n 1, 1) := by decide +kernel
theorem dX3_undo_42 : decode cX3_undo 42 = .ok (.invokevirtual 183, 3) := by decide +kernel
theorem dX3_undo_45 : decode cX3_undo 45 = .ok (.aload_n 0, 1) := by decide +kernel
theorem dX3_undo_46 : decode cX3_undo 46 = .ok (.dup, 1) := by decide +kernel
theorem dX3_undo_47 : decode cX3_undo 47 = .ok (.getfield 187, 3) := by decide +kernel
theorem dX3_undo_50 : decode cX3_undo 50 = .ok (.iconst 1, 1) := by decide +kernel
theorem dX3_undo_51 : decode cX3_undo 51 = .ok (.isub, 1) := by decide +kernel
theorem dX3_undo_52 : decode cX3_undo 52 = .ok (.putfield 187, 3) := by decide +kernel
theorem dX3_undo_55 : decode cX3_undo 55 = .ok (.aload_n 0, 1) := by decide +kernel
theorem dX3_undo_56 : decode cX3_undo 56 = .ok (.getfield 187, 3) := by decide +kernel
theorem dX3_undo_59 : decode cX3_undo 59 = .ok (.ireturn, 1) := by decide +kernel
theorem dX3_nailOf_0 : decode cX3_nailOf 0 = .ok (.aload_n 0, 1) := by decide +kernel
theorem dX3_nailOf_1 : decode cX3_nailOf 1 = .ok (.iload_n 1, 1) := by decide +kernel
theorem dX3_nailOf_2 : decode cX3_nailOf 2 = .ok (.invokevirtual 107, 3) := by decide +kernel
theorem dX3_nailOf_5 : decode cX3_nailOf 5 = .ok (.iload_n 2, 1) := by decide +kernel
theorem dX3_nailOf_6 : decode cX3_nailOf 6 = .ok (.iconst 0, 1) := by decide +kernel
theorem dX3_nailOf_7 : decode cX3_nailOf 7 = .ok (.iconst 3, 1) := by decide +kernel
theorem dX3_nailOf_8 : decode cX3_nailOf 8 = .ok (.invokestatic 72, 3) := by decide +kernel
theorem dX3_nailOf_11 : decode cX3_nailOf 11 = .ok (.iload_n 2, 1) := by decide +kernel
theorem dX3_nailOf_12 : decode cX3_nailOf 12 = .ok (.tableswitch 63 0 2 #[28, 41, 54], 28) := by decide +kernel
theorem dX3_nailOf_40 : decode cX3_nailOf 40 = .ok (.iload_n 1, 1) := by decide +kernel
theorem dX3_nailOf_41 : decode cX3_nailOf 41 = .ok (.aload_n 0, 1) := by decide +kernel
theorem dX3_nailOf_42 : decode cX3_nailOf 42 = .ok (.getfield 34, 3) := by decide +kernel
theorem dX3_nailOf_45 : decode cX3_nailOf 45 = .ok (.getfield 62, 3) := by decide +kernel
theorem dX3_nailOf_48 : decode cX3_nailOf 48 = .ok (.imul, 1) := by decide +kernel
theorem dX3_nailOf_49 : decode cX3_nailOf 49 = .ok (.invokestatic 192, 3) := by decide +kernel
theorem dX3_nailOf_52 : decode cX3_nailOf 52 = .ok (.ireturn, 1) := by decide +kernel
theorem dX3_nailOf_53 : decode cX3_nailOf 53 = .ok (.iload_n 1, 1) := by decide +kernel
theorem dX3_nailOf_54 : decode cX3_nailOf 54 = .ok (.aload_n 0, 1) := by decide +kernel
theorem dX3_nailOf_55 : decode cX3_nailOf 55 = .ok (.getfield 34, 3) := by decide +kernel
theorem dX3_nailOf_58 : decode cX3_nailOf 58 = .ok (.getfield 62, 3) := by decide +kernel
theorem dX3_nailOf_61 : decode cX3_nailOf 61 = .ok (.imul, 1) := by decide +kernel
theorem dX3_nailOf_62 : decode cX3_nailOf 62 = .ok (.invokestatic 195, 3) := by decide +kernel
theorem dX3_nailOf_65 : decode cX3_nailOf 65 = .ok (.ireturn, 1) := by decide +kernel
theorem dX3_nailOf_66 : decode cX3_nailOf 66 = .ok (.aload_n 0, 1) := by decide +kernel
theorem dX3_nailOf_67 : decode cX3_nailOf 67 = .ok (.getfield 34, 3) := by decide +kernel
theorem dX3_nailOf_70 : decode cX3_nailOf 70 = .ok (.iload_n 1, 1) := by decide +kernel
theorem dX3_nailOf_71 : decode cX3_nailOf 71 = .ok (.invokevirtual 198, 3) := by decide +kernel
theorem dX3_nailOf_74 : decode cX3_nailOf 74 = .ok (.ireturn, 1) := by decide +kernel
theorem dX3_nailOf_75 : decode cX3_nailOf 75 = .ok (.iload_n 1, 1) := by decide +kernel
theorem dX3_nailOf_76 : decode cX3_nailOf 76 = .ok (.aload_n 0, 1) := by decide +kernel
theorem dX3_nailOf_77 : decode cX3_nailOf 77 = .ok (.getfield 34, 3) := by decide +kernel
theorem dX3_nailOf_80 : decode cX3_nailOf 80 = .ok (.getfield 65, 3) := by decide +kernel
theorem dX3_nailOf_83 : decode cX3_nailOf 83 = .ok (.if_icmp .ne 7, 3) := by decide +kernel
theorem dX3_nailOf_86 : decode cX3_nailOf 86 = .ok (.iconst 1, 1) := by decide +kernel
theorem dX3_nailOf_87 : decode cX3_nailOf 87 = .ok (.goto 4, 3) := by decide +kernel
theorem dX3_nailOf_90 : decode cX3_nailOf 90 = .ok (.iconst 0, 1) := by decide +kernel
theorem dX3_nailOf_91 : decode cX3_nailOf 91 = .ok (.ireturn, 1) := by decide +kernel
theorem dX3_spoolOf_0 : decode cX3_spoolOf 0 = .ok (.iload_n 1, 1) := by decide +kernel
theorem dX3_spoolOf_1 : decode cX3_spoolOf 1 = .ok (.invokestatic 68, 3) := by decide +kernel
theorem dX3_spoolOf_4 : decode cX3_spoolOf 4 = .ok (.iload_n 2, 1) := by decide +kernel
theorem dX3_spoolOf_5 : decode cX3_spoolOf 5 = .ok (.iconst 0, 1) := by decide +kernel
theorem dX3_spoolOf_6 : decode cX3_spoolOf 6 = .ok (.iconst 4, 1) := by decide +kernel
theorem dX3_spoolOf_7 : decode cX3_spoolOf 7 = .ok (.invokestatic 72, 3) := by decide +kernel
theorem dX3_spoolOf_10 : decode cX3_spoolOf 10 = .ok (.iload_n 2, 1) := by decide +kernel
theorem dX3_spoolOf_11 : decode cX3_spoolOf 11 = .ok (.tableswitch 67 0 3 #[29, 39, 49, 58], 29) := by decide +kernel
theorem dX3_spoolOf_40 : decode cX3_spoolOf 40 = .ok (.aload_n 0, 1) := by decide +kernel
theorem dX3_spoolOf_41 : decode cX3_spoolOf 41 = .ok (.getfield 34, 3) := by decide +kernel
theorem dX3_spoolOf_44 : decode cX3_spoolOf 44 = .ok (.getfield 90, 3) := by decide +kernel
theorem dX3_spoolOf_47 : decode cX3_spoolOf 47 = .ok (.iload_n 1, 1) := by decide +kernel
theorem dX3_spoolOf_48 : decode cX3_spoolOf 48 = .ok (.iaload, 1) := by decide +kernel
theorem dX3_spoolOf_49 : decode cX3_spoolOf 49 = .ok (.ireturn, 1) := by decide +kernel
theorem dX3_spoolOf_50 : decode cX3_spoolOf 50 = .ok (.aload_n 0, 1) := by decide +kernel
theorem dX3_spoolOf_51 : decode cX3_spoolOf 51 = .ok (.getfield 34, 3) := by decide +kernel
theorem dX3_spoolOf_54 : decode cX3_spoolOf 54 = .ok (.getfield 87, 3) := by decide +kernel
theorem dX3_spoolOf_57 : decode cX3_spoolOf 57 = .ok (.iload_n 1, 1) := by decide +kernel
theorem dX3_spoolOf_58 : decode cX3_spoolOf 58 = .ok (.iaload, 1) := by decide +kernel
theorem dX3_spoolOf_59 : decode cX3_spoolOf 59 = .ok (.ireturn, 1) := by decide +kernel
theorem dX3_spoolOf_60 : decode cX3_spoolOf 60 = .ok (.aload_n 0, 1) := by decide +kernel
theorem dX3_spoolOf_61 : decode cX3_spoolOf 61 = .ok (.getfield 34, 3) := by decide +kernel
theorem dX3_spoolOf_64 : decode cX3_spoolOf 64 = .ok (.iload_n 1, 1) := by decide +kernel
theorem dX3_spoolOf_65 : decode cX3_spoolOf 65 = .ok (.invokevirtual 201, 3) := by decide +kernel
theorem dX3_spoolOf_68 : decode cX3_spoolOf 68 = .ok (.ireturn, 1) := by decide +kernel
theorem dX3_spoolOf_69 : decode cX3_spoolOf 69 = .ok (.aload_n 0, 1) := by decide +kernel
theorem dX3_spoolOf_70 : decode cX3_spoolOf 70 = .ok (.getfield 34, 3) := by decide +kernel
theorem dX3_spoolOf_73 : decode cX3_spoolOf 73 = .ok (.iload_n 1, 1) := by decide +kernel
theorem dX3_spoolOf_74 : decode cX3_spoolOf 74 = .ok (.invokevirtual 79, 3) := by decide +kernel
theorem dX3_spoolOf_77 : decode cX3_spoolOf 77 = .ok (.ireturn, 1) := by decide +kernel
theorem dX3_spoolOf_78 : decode cX3_spoolOf 78 = .ok (.iload_n 1, 1) := by decide +kernel
theorem dX3_spoolOf_79 : decode cX3_spoolOf 79 = .ok (.aload_n 0, 1) := by decide +kernel
theorem dX3_spoolOf_80 : decode cX3_spoolOf 80 = .ok (.getfield 34, 3) := by decide +kernel
theorem dX3_spoolOf_83 : decode cX3_spoolOf 83 = .ok (.getfield 76, 3) := by decide +kernel
theorem dX3_spoolOf_86 : decode cX3_spoolOf 86 = .ok (.if_icmp .ne 7, 3) := by decide +kernel
theorem dX3_spoolOf_89 : decode cX3_spoolOf 89 = .ok (.iconst 1, 1) := by decide +kernel
theorem dX3_spoolOf_90 : decode cX3_spoolOf 90 = .ok (.goto 4, 3) := by decide +kernel
theorem dX3_spoolOf_93 : decode cX3_spoolOf 93 = .ok (.iconst 0, 1) := by decide +kernel
theorem dX3_spoolOf_94 : decode cX3_spoolOf 94 = .ok (.ireturn, 1) := by decide +kernel
theorem dX3_chord_0 : decode cX3_chord 0 = .ok (.aload_n 0, 1) := by decide +kernel
theorem dX3_chord_1 : decode cX3_chord 1 = .ok (.iload_n 1, 1) := by decide +kernel
theorem dX3_chord_2 : decode cX3_chord 2 = .ok (.invokevirtual 107, 3) := by decide +kernel
theorem dX3_chord_5 : decode cX3_chord 5 = .ok (.aload_n 0, 1) := by decide +kernel
theorem dX3_chord_6 : decode cX3_chord 6 = .ok (.iload_n 2, 1) := by decide +kernel
theorem dX3_chord_7 : decode cX3_chord 7 = .ok (.invokevirtual 107, 3) := by decide +kernel
theorem dX3_chord_10 : decode cX3_chord 10 = .ok (.iload_n 3, 1) := by decide +kernel
theorem dX3_chord_11 : decode cX3_chord 11 = .ok (.iconst 0, 1) := by decide +kernel
theorem dX3_chord_12 : decode cX3_chord 12 = .ok (.iconst 2, 1) := by decide +kernel
theorem dX3_chord_13 : decode cX3_chord 13 = .ok (.invokestatic 72, 3) := by decide +kernel
theorem dX3_chord_16 : decode cX3_chord 16 = .ok (.iload_n 1, 1) := by decide +kernel
theorem dX3_chord_17 : decode cX3_chord 17 = .ok (.iload_n 2, 1) := by decide +kernel
theorem dX3_chord_18 : decode cX3_chord 18 = .ok (.if_icmp .ne 5, 3) := by decide +kernel
theorem dX3_chord_21 : decode cX3_chord 21 = .ok (.iconst (-1), 1) := by decide +kernel
theorem dX3_chord_22 : decode cX3_chord 22 = .ok (.ireturn, 1) := by decide +kernel
theorem dX3_chord_23 : decode cX3_chord 23 = .ok (.iload_n 3, 1) := by decide +kernel
theorem dX3_chord_24 : decode cX3_chord 24 = .ok (.lookupswitch 55 #[(0, 28), (1, 41)], 28) := by decide +kernel
theorem dX3_chord_52 : decode cX3_chord 52 = .ok (.aload_n 0, 1) := by decide +kernel
theorem dX3_chord_53 : decode cX3_chord 53 = .ok (.getfield 34, 3) := by decide +kernel
theorem dX3_chord_56 : decode cX3_chord 56 = .ok (.iload_n 1, 1) := by decide +kernel
theorem dX3_chord_57 : decode cX3_chord 57 = .ok (.iload_n 2, 1) := by decide +kernel
theorem dX3_chord_58 : decode cX3_chord 58 = .ok (.invokevirtual 204, 3) := by decide +kernel
theorem dX3_chord_61 : decode cX3_chord 61 = .ok (.getfield 208, 3) := by decide +kernel
theorem dX3_chord_64 : decode cX3_chord 64 = .ok (.ireturn, 1) := by decide +kernel
theorem dX3_chord_65 : decode cX3_chord 65 = .ok (.aload_n 0, 1) := by decide +kernel
theorem dX3_chord_66 : decode cX3_chord 66 = .ok (.getfield 34, 3) := by decide +kernel
theorem dX3_chord_69 : decode cX3_chord 69 = .ok (.iload_n 1, 1) := by decide +kernel
theorem dX3_chord_70 : decode cX3_chord 70 = .ok (.iload_n 2, 1) := by decide +kernel
theorem dX3_chord_71 : decode cX3_chord 71 = .ok (.invokevirtual 204, 3) := by decide +kernel
theorem dX3_chord_74 : decode cX3_chord 74 = .ok (.getfield 209, 3) := by decide +kernel
theorem dX3_chord_77 : decode cX3_chord 77 = .ok (.arraylength, 1) := by decide +kernel
theorem dX3_chord_78 : decode cX3_chord 78 = .ok (.ireturn, 1) := by decide +kernel
theorem dX3_chord_79 : decode cX3_chord 79 = .ok (.aload_n 0, 1) := by decide +kernel
theorem dX3_chord_80 : decode cX3_chord 80 = .ok (.getfield 34, 3) := by decide +kernel
theorem dX3_chord_83 : decode cX3_chord 83 = .ok (.iload_n 1, 1) := by decide +kernel
theorem dX3_chord_84 : decode cX3_chord 84 = .ok (.iload_n 2, 1) := by decide +kernel
theorem dX3_chord_85 : decode cX3_chord 85 = .ok (.invokevirtual 212, 3) := by decide +kernel
theorem dX3_chord_88 : decode cX3_chord 88 = .ok (.ireturn, 1) := by decide +kernel
theorem dX3_wound_0 : decode cX3_wound 0 = .ok (.iload_n 1, 1) := by decide +kernel
theorem dX3_wound_1 : decode cX3_wound 1 = .ok (.ifCond .ge 13, 3) := by decide +kernel
theorem dX3_wound_4 : decode cX3_wound 4 = .ok (.new 45, 3) := by decide +kernel
theorem dX3_wound_7 : decode cX3_wound 7 = .ok (.dup, 1) := by decide +kernel
theorem dX3_wound_8 : decode cX3_wound 8 = .ok (.ldc 216, 2) := by decide +kernel
theorem dX3_wound_10 : decode cX3_wound 10 = .ok (.invokespecial 49, 3) := by decide +kernel
theorem dX3_wound_13 : decode cX3_wound 13 = .ok (.athrow, 1) := by decide +kernel
theorem dX3_wound_14 : decode cX3_wound 14 = .ok (.iload_n 2, 1) := by decide +kernel
theorem dX3_wound_15 : decode cX3_wound 15 = .ok (.iconst 0, 1) := by decide +kernel
theorem dX3_wound_16 : decode cX3_wound 16 = .ok (.iconst 2, 1) := by decide +kernel
theorem dX3_wound_17 : decode cX3_wound 17 = .ok (.invokestatic 72, 3) := by decide +kernel
theorem dX3_wound_20 : decode cX3_wound 20 = .ok (.iload_n 1, 1) := by decide +kernel
theorem dX3_wound_21 : decode cX3_wound 21 = .ok (.aload_n 0, 1) := by decide +kernel
theorem dX3_wound_22 : decode cX3_wound 22 = .ok (.getfield 34, 3) := by decide +kernel
theorem dX3_wound_25 : decode cX3_wound 25 = .ok (.getfield 110, 3) := by decide +kernel
theorem dX3_wound_28 : decode cX3_wound 28 = .ok (.if_icmp .lt 5, 3) := by decide +kernel
theorem dX3_wound_31 : decode cX3_wound 31 = .ok (.iconst (-1), 1) := by decide +kernel
theorem dX3_wound_32 : decode cX3_wound 32 = .ok (.ireturn, 1) := by decide +kernel
theorem dX3_wound_33 : decode cX3_wound 33 = .ok (.aload_n 0, 1) := by decide +kernel
theorem dX3_wound_34 : decode cX3_wound 34 = .ok (.getfield 34, 3) := by decide +kernel
theorem dX3_wound_37 : decode cX3_wound 37 = .ok (.getfield 110, 3) := by decide +kernel
theorem dX3_wound_40 : decode cX3_wound 40 = .ok (.iconst 1, 1) := by decide +kernel
theorem dX3_wound_41 : decode cX3_wound 41 = .ok (.isub, 1) := by decide +kernel
theorem dX3_wound_42 : decode cX3_wound 42 = .ok (.iload_n 1, 1) := by decide +kernel
theorem dX3_wound_43 : decode cX3_wound 43 = .ok (.isub, 1) := by decide +kernel
theorem dX3_wound_44 : decode cX3_wound 44 = .ok (.istore_n 3, 1) := by decide +kernel
theorem dX3_wound_45 : decode cX3_wound 45 = .ok (.iload_n 2, 1) := by decide +kernel
theorem dX3_wound_46 : decode cX3_wound 46 = .ok (.lookupswitch 46 #[(0, 26), (1, 36)], 26) := by decide +kernel
theorem dX3_wound_72 : decode cX3_wound 72 = .ok (.aload_n 0, 1) := by decide +kernel
theorem dX3_wound_73 : decode cX3_wound 73 = .ok (.getfield 34, 3) := by decide +kernel
theorem dX3_wound_76 : decode cX3_wound 76 = .ok (.getfield 218, 3) := by decide +kernel
theorem dX3_wound_79 : decode cX3_wound 79 = .ok (.iload_n 3, 1) := by decide +kernel
theorem dX3_wound_80 : decode cX3_wound 80 = .ok (.iaload, 1) := by decide +kernel
theorem dX3_wound_81 : decode cX3_wound 81 = .ok (.ireturn, 1) := by decide +kernel
theorem dX3_wound_82 : decode cX3_wound 82 = .ok (.aload_n 0, 1) := by decide +kernel
theorem dX3_wound_83 : decode cX3_wound 83 = .ok (.getfield 34, 3) := by decide +kernel
theorem dX3_wound_86 : decode cX3_wound 86 = .ok (.getfield 221, 3) := by decide +kernel
theorem dX3_wound_89 : decode cX3_wound 89 = .ok (.iload_n 3, 1) := by decide +kernel
theorem dX3_wound_90 : decode cX3_wound 90 = .ok (.iaload, 1) := by decide +kernel
theorem dX3_wound_91 : decode cX3_wound 91 = .ok (.ireturn, 1) := by decide +kernel
theorem dX3_wound_92 : decode cX3_wound 92 = .ok (.aload_n 0, 1) := by decide +kernel
theorem dX3_wound_93 : decode cX3_wound 93 = .ok (.getfield 34, 3) := by decide +kernel
theorem dX3_wound_96 : decode cX3_wound 96 = .ok (.getfield 224, 3) := by decide +kernel
theorem dX3_wound_99 : decode cX3_wound 99 = .ok (.iload_n 3, 1) := by decide +kernel
theorem dX3_wound_100 : decode cX3_wound 100 = .ok (.iaload, 1) := by decide +kernel
theorem dX3_wound_101 : decode cX3_wound 101 = .ok (.ireturn, 1) := by decide +kernel
theorem dX3_square_0 : decode cX3_square 0 = .ok (.iload_n 1, 1) := by decide +kernel
theorem dX3_square_1 : decode cX3_square 1 = .ok (.iload_n 2, 1) := by decide +kernel
theorem dX3_square_2 : decode cX3_square 2 = .ok (.invokestatic 139, 3) := by decide +kernel
theorem dX3_square_5 : decode cX3_square 5 = .ok (.iload_n 3, 1) := by decide +kernel
theorem dX3_square_6 : decode cX3_square 6 = .ok (.iconst 0, 1) := by decide +kernel
theorem dX3_square_7 : decode cX3_square 7 = .ok (.iconst 3, 1) := by decide +kernel
theorem dX3_square_8 : decode cX3_square 8 = .ok (.invokestatic 72, 3) := by decide +kernel
theorem dX3_square_11 : decode cX3_square 11 = .ok (.iload_n 2, 1) := by decide +kernel
theorem dX3_square_12 : decode cX3_square 12 = .ok (.bipush 12, 2) := by decide +kernel
theorem dX3_square_14 : decode cX3_square 14 = .ok (.imul, 1) := by decide +kernel
theorem dX3_square_15 : decode cX3_square 15 = .ok (.iload_n 1, 1) := by decide +kernel
theorem dX3_square_16 : decode cX3_square 16 = .ok (.iadd, 1) := by decide +kernel
theorem dX3_square_17 : decode cX3_square 17 = .ok (.istore 4, 2) := by decide +kernel
theorem dX3_square_19 : decode cX3_square 19 = .ok (.iload_n 3, 1) := by decide +kernel
theorem dX3_square_20 : decode cX3_square 20 = .ok (.tableswitch 64 0 2 #[28, 39, 50], 28) := by decide +kernel
theorem dX3_square_48 : decode cX3_square 48 = .ok (.aload_n 0, 1) := by decide +kernel
theorem dX3_square_49 : decode cX3_square 49 = .ok (.getfield 34, 3) := by decide +kernel
theorem dX3_square_52 : decode cX3_square 52 = .ok (.getfield 143, 3) := by decide +kernel
theorem dX3_square_55 : decode cX3_square 55 = .ok (.iload 4, 2) := by decide +kernel
theorem dX3_square_57 : decode cX3_square 57 = .ok (.iaload, 1) := by decide +kernel
theorem dX3_square_58 : decode cX3_square 58 = .ok (.ireturn, 1) := by decide +kernel
theorem dX3_square_59 : decode cX3_square 59 = .ok (.aload_n 0, 1) := by decide +kernel
theorem dX3_square_60 : decode cX3_square 60 = .ok (.getfield 34, 3) := by decide +kernel
theorem dX3_square_63 : decode cX3_square 63 = .ok (.getfield 227, 3) := by decide +kernel
theorem dX3_square_66 : decode cX3_square 66 = .ok (.iload 4, 2) := by decide +kernel
theorem dX3_square_68 : decode cX3_square 68 = .ok (.iaload, 1) := by decide +kernel
theorem dX3_square_69 : decode cX3_square 69 = .ok (.ireturn, 1) := by decide +kernel
theorem dX3_square_70 : decode cX3_square 70 = .ok (.aload_n 0, 1) := by decide +kernel
theorem dX3_square_71 : decode cX3_square 71 = .ok (.getfield 34, 3) := by decide +kernel
theorem dX3_square_74 : decode cX3_square 74 = .ok (.iload 4, 2) := by decide +kernel
theorem dX3_square_76 : decode cX3_square 76 = .ok (.invokevirtual 230, 3) := by decide +kernel
theorem dX3_square_79 : decode cX3_square 79 = .ok (.sipush 10000, 3) := by decide +kernel
theorem dX3_square_82 : decode cX3_square 82 = .ok (.iadd, 1) := by decide +kernel
theorem dX3_square_83 : decode cX3_square 83 = .ok (.ireturn, 1) := by decide +kernel
theorem dX3_square_84 : decode cX3_square 84 = .ok (.aload_n 0, 1) := by decide +kernel
theorem dX3_square_85 : decode cX3_square 85 = .ok (.getfield 34, 3) := by decide +kernel
theorem dX3_square_88 : decode cX3_square 88 = .ok (.getfield 233, 3) := by decide +kernel
theorem dX3_square_91 : decode cX3_square 91 = .ok (.iload 4, 2) := by decide +kernel
theorem dX3_square_93 : decode cX3_square 93 = .ok (.iaload, 1) := by decide +kernel
theorem dX3_square_94 : decode cX3_square 94 = .ok (.ireturn, 1) := by decide +kernel
theorem dX3_count_0 : decode cX3_count 0 = .ok (.iload_n 1, 1) := by decide +kernel
theorem dX3_count_1 : decode cX3_count 1 = .ok (.iconst 0, 1) := by decide +kernel
theorem dX3_count_2 : decode cX3_count 2 = .ok (.bipush 12, 2) := by decide +kernel
theorem dX3_count_4 : decode cX3_count 4 = .ok (.invokestatic 72, 3) := by decide +kernel
theorem dX3_count_7 : decode cX3_count 7 = .ok (.iload_n 1, 1) := by decide +kernel
theorem dX3_count_8 : decode cX3_count 8 = .ok (.tableswitch 185 0 11 #[64, 72, 80, 88, 96, 104, 112, 120, 128, 140, 149, 158], 64) := by decide +kernel
theorem dX3_count_72 : decode cX3_count 72 = .ok (.aload_n 0, 1) := by decide +kernel
theorem dX3_count_73 : decode cX3_count 73 = .ok (.getfield 34, 3) := by decide +kernel
theorem dX3_count_76 : decode cX3_count 76 = .ok (.getfield 55, 3) := by decide +kernel
theorem dX3_count_79 : decode cX3_count 79 = .ok (.ireturn, 1) := by decide +kernel
theorem dX3_count_80 : decode cX3_count 80 = .ok (.aload_n 0, 1) := by decide +kernel
theorem dX3_count_81 : decode cX3_count 81 = .ok (.getfield 34, 3) := by decide +kernel
theorem dX3_count_84 : decode cX3_count 84 = .ok (.getfield 65, 3) := by decide +kernel
theorem dX3_count_87 : decode cX3_count 87 = .ok (.ireturn, 1) := by decide +kernel
theorem dX3_count_88 : decode cX3_count 88 = .ok (.aload_n 0, 1) := by decide +kernel
theorem dX3_count_89 : decode cX3_count 89 = .ok (.getfield 34, 3) := by decide +kernel
theorem dX3_count_92 : decode cX3_count 92 = .ok (.getfield 76, 3) := by decide +kernel
theorem dX3_count_95 : decode cX3_count 95 = .ok (.ireturn, 1) := by decide +kernel
theorem dX3_count_96 : decode cX3_count 96 = .ok (.aload_n 0, 1) := by decide +kernel
theorem dX3_count_97 : decode cX3_count 97 = .ok (.getfield 34, 3) := by decide +kernel
theorem dX3_count_100 : decode cX3_count 100 = .ok (.getfield 110, 3) := by decide +kernel
theorem dX3_count_103 : decode cX3_count 103 = .ok (.ireturn, 1) := by decide +kernel
theorem dX3_count_104 : decode cX3_count 104 = .ok (.aload_n 0, 1) := by decide +kernel
theorem dX3_count_105 : decode cX3_count 105 = .ok (.getfield 34, 3) := by decide +kernel
theorem dX3_count_108 : decode cX3_count 108 = .ok (.getfield 121, 3) := by decide +kernel
theorem dX3_count_111 : decode cX3_count 111 = .ok (.ireturn, 1) := by decide +kernel
theorem dX3_count_112 : decode cX3_count 112 = .ok (.aload_n 0, 1) := by decide +kernel
theorem dX3_count_113 : decode cX3_count 113 = .ok (.getfield 34, 3) := by decide +kernel
theorem dX3_count_116 : decode cX3_count 116 = .ok (.getfield 124, 3) := by decide +kernel
theorem dX3_count_119 : decode cX3_count 119 = .ok (.ireturn, 1) := by decide +kernel
theorem dX3_count_120 : decode cX3_count 120 = .ok (.aload_n 0, 1) := by decide +kernel
theorem dX3_count_121 : decode cX3_count 121 = .ok (.getfield 34, 3) := by decide +kernel
theorem dX3_count_124 : decode cX3_count 124 = .ok (.getfield 95, 3) := by decide +kernel
theorem dX3_count_127 : decode cX3_count 127 = .ok (.ireturn, 1) := by decide +kernel
theorem dX3_count_128 : decode cX3_count 128 = .ok (.aload_n 0, 1) := by decide +kernel
theorem dX3_count_129 : decode cX3_count 129 = .ok (.getfield 34, 3) := by decide +kernel
theorem dX3_count_132 : decode cX3_count 132 = .ok (.invokevirtual 152, 3) := by decide +kernel
theorem dX3_count_135 : decode cX3_count 135 = .ok (.ireturn, 1) := by decide +kernel
theorem dX3_count_136 : decode cX3_count 136 = .ok (.aload_n 0, 1) := by decide +kernel
theorem dX3_count_137 : decode cX3_count 137 = .ok (.getfield 34, 3) := by decide +kernel
theorem dX3_count_140 : decode cX3_count 140 = .ok (.aload_n 0, 1) := by decide +kernel
theorem dX3_count_141 : decode cX3_count 141 = .ok (.getfield 9, 3) := by decide +kernel
theorem dX3_count_144 : decode cX3_count 144 = .ok (.invokevirtual 236, 3) := by decide +kernel
theorem dX3_count_147 : decode cX3_count 147 = .ok (.ireturn, 1) := by decide +kernel
theorem dX3_count_148 : decode cX3_count 148 = .ok (.aload_n 0, 1) := by decide +kernel
theorem dX3_count_149 : decode cX3_count 149 = .ok (.getfield 34, 3) := by decide +kernel
theorem dX3_count_152 : decode cX3_count 152 = .ok (.iconst 1, 1) := by decide +kernel
theorem dX3_count_153 : decode cX3_count 153 = .ok (.invokevirtual 240, 3) := by decide +kernel
theorem dX3_count_156 : decode cX3_count 156 = .ok (.ireturn, 1) := by decide +kernel
theorem dX3_count_157 : decode cX3_count 157 = .ok (.aload_n 0, 1) := by decide +kernel
theorem dX3_count_158 : decode cX3_count 158 = .ok (.getfield 34, 3) := by decide +kernel
theorem dX3_count_161 : decode cX3_count 161 = .ok (.iconst (-1), 1) := by decide +kernel
theorem dX3_count_162 : decode cX3_count 162 = .ok (.invokevirtual 240, 3) := by decide +kernel
theorem dX3_count_165 : decode cX3_count 165 = .ok (.ireturn, 1) := by decide +kernel
theorem dX3_count_166 : decode cX3_count 166 = .ok (.aload_n 0, 1) := by decide +kernel
theorem dX3_count_167 : decode cX3_count 167 = .ok (.getfield 34, 3) := by decide +kernel
theorem dX3_count_170 : decode cX3_count 170 = .ok (.iconst 0, 1) := by decide +kernel
theorem dX3_count_171 : decode cX3_count 171 = .ok (.invokevirtual 201, 3) := by decide +kernel
theorem dX3_count_174 : decode cX3_count 174 = .ok (.aload_n 0, 1) := by decide +kernel
theorem dX3_count_175 : decode cX3_count 175 = .ok (.getfield 34, 3) := by decide +kernel
theorem dX3_count_178 : decode cX3_count 178 = .ok (.iconst 1, 1) := by decide +kernel
theorem dX3_count_179 : decode cX3_count 179 = .ok (.invokevirtual 201, 3) := by decide +kernel
theorem dX3_count_182 : decode cX3_count 182 = .ok (.iadd, 1) := by decide +kernel
theorem dX3_count_183 : decode cX3_count 183 = .ok (.aload_n 0, 1) := by decide +kernel
theorem dX3_count_184 : decode cX3_count 184 = .ok (.getfield 34, 3) := by decide +kernel
theorem dX3_count_187 : decode cX3_count 187 = .ok (.iconst 2, 1) := by decide +kernel
theorem dX3_count_188 : decode cX3_count 188 = .ok (.invokevirtual 201, 3) := by decide +kernel
theorem dX3_count_191 : decode cX3_count 191 = .ok (.iadd, 1) := by decide +kernel
theorem dX3_count_192 : decode cX3_count 192 = .ok (.ireturn, 1) := by decide +kernel
theorem dX3_count_193 : decode cX3_count 193 = .ok (.aload_n 0, 1) := by decide +kernel
theorem dX3_count_194 : decode cX3_count 194 = .ok (.getfield 187, 3) := by decide +kernel
theorem dX3_count_197 : decode cX3_count 197 = .ok (.ireturn, 1) := by decide +kernel
theorem dX3_setting_0 : decode cX3_setting 0 = .ok (.iload_n 1, 1) := by decide +kernel
theorem dX3_setting_1 : decode cX3_setting 1 = .ok (.invokestatic 98, 3) := by decide +kernel
theorem dX3_setting_4 : decode cX3_setting 4 = .ok (.aload_n 0, 1) := by decide +kernel
theorem dX3_setting_5 : decode cX3_setting 5 = .ok (.getfield 34, 3) := by decide +kernel
theorem dX3_setting_8 : decode cX3_setting 8 = .ok (.getfield 104, 3) := by decide +kernel
theorem dX3_setting_11 : decode cX3_setting 11 = .ok (.iload_n 1, 1) := by decide +kernel
theorem dX3_setting_12 : decode cX3_setting 12 = .ok (.iaload, 1) := by decide +kernel
theorem dX3_setting_13 : decode cX3_setting 13 = .ok (.ireturn, 1) := by decide +kernel
theorem dX3_whyNot_0 : decode cX3_whyNot 0 = .ok (.aload_n 0, 1) := by decide +kernel
theorem dX3_whyNot_1 : decode cX3_whyNot 1 = .ok (.iload_n 1, 1) := by decide +kernel
theorem dX3_whyNot_2 : decode cX3_whyNot 2 = .ok (.invokevirtual 107, 3) := by decide +kernel
theorem dX3_whyNot_5 : decode cX3_whyNot 5 = .ok (.aload_n 0, 1) := by decide +kernel
theorem dX3_whyNot_6 : decode cX3_whyNot 6 = .ok (.getfield 34, 3) := by decide +kernel
theorem dX3_whyNot_9 : decode cX3_whyNot 9 = .ok (.iload_n 1, 1) := by decide +kernel
theorem dX3_whyNot_10 : decode cX3_whyNot 10 = .ok (.invokevirtual 115, 3) := by decide +kernel
theorem dX3_whyNot_13 : decode cX3_whyNot 13 = .ok (.ireturn, 1) := by decide +kernel
theorem dX3_gain_0 : decode cX3_gain 0 = .ok (.aload_n 0, 1) := by decide +kernel
theorem dX3_gain_1 : decode cX3_gain 1 = .ok (.iload_n 1, 1) := by decide +kernel
theorem dX3_gain_2 : decode cX3_gain 2 = .ok (.invokevirtual 107, 3) := by decide +kernel
theorem dX3_gain_5 : decode cX3_gain 5 = .ok (.iload_n 1, 1) := by decide +kernel
theorem dX3_gain_6 : decode cX3_gain 6 = .ok (.aload_n 0, 1) := by decide +kernel
theorem dX3_gain_7 : decode cX3_gain 7 = .ok (.getfield 34, 3) := by decide +kernel
theorem dX3_gain_10 : decode cX3_gain 10 = .ok (.getfield 65, 3) := by decide +kernel
theorem dX3_gain_13 : decode cX3_gain 13 = .ok (.if_icmp .ne 7, 3) := by decide +kernel
theorem dX3_gain_16 : decode cX3_gain 16 = .ok (.iconst (-1), 1) := by decide +kernel
theorem dX3_gain_17 : decode cX3_gain 17 = .ok (.goto 15, 3) := by decide +kernel
theorem dX3_gain_20 : decode cX3_gain 20 = .ok (.aload_n 0, 1) := by decide +kernel
theorem dX3_gain_21 : decode cX3_gain 21 = .ok (.getfield 34, 3) := by decide +kernel
theorem dX3_gain_24 : decode cX3_gain 24 = .ok (.iload_n 1, 1) := by decide +kernel
theorem dX3_gain_25 : decode cX3_gain 25 = .ok (.invokevirtual 136, 3) := by decide +kernel
theorem dX3_gain_28 : decode cX3_gain 28 = .ok (.sipush 10000, 3) := by decide +kernel
theorem dX3_gain_31 : decode cX3_gain 31 = .ok (.iadd, 1) := by decide +kernel
theorem dX3_gain_32 : decode cX3_gain 32 = .ok (.ireturn, 1) := by decide +kernel
theorem dX3_best_0 : decode cX3_best 0 = .ok (.aload_n 0, 1) := by decide +kernel
theorem dX3_best_1 : decode cX3_best 1 = .ok (.getfield 34, 3) := by decide +kernel
theorem dX3_best_4 : decode cX3_best 4 = .ok (.invokevirtual 132, 3) := by decide +kernel
theorem dX3_best_7 : decode cX3_best 7 = .ok (.ireturn, 1) := by decide +kernel
theorem dX3_bestTwo_0 : decode cX3_bestTwo 0 = .ok (.aload_n 0, 1) := by decide +kernel
theorem dX3_bestTwo_1 : decode cX3_bestTwo 1 = .ok (.getfield 38, 3) := by decide +kernel
theorem dX3_bestTwo_4 : decode cX3_bestTwo 4 = .ok (.aload_n 0, 1) := by decide +kernel
theorem dX3_bestTwo_5 : decode cX3_bestTwo 5 = .ok (.getfield 34, 3) := by decide +kernel
theorem dX3_bestTwo_8 : decode cX3_bestTwo 8 = .ok (.invokevirtual 183, 3) := by decide +kernel
theorem dX3_bestTwo_11 : decode cX3_bestTwo 11 = .ok (.iconst (-1), 1) := by decide +kernel
theorem dX3_bestTwo_12 : decode cX3_bestTwo 12 = .ok (.istore_n 1, 1) := by decide +kernel
theorem dX3_bestTwo_13 : decode cX3_bestTwo 13 = .ok (.iconst 0, 1) := by decide +kernel
theorem dX3_bestTwo_14 : decode cX3_bestTwo 14 = .ok (.istore_n 2, 1) := by decide +kernel
theorem dX3_bestTwo_15 : decode cX3_bestTwo 15 = .ok (.iconst 0, 1) := by decide +kernel
theorem dX3_bestTwo_16 : decode cX3_bestTwo 16 = .ok (.istore_n 3, 1) := by decide +kernel
theorem dX3_bestTwo_17 : decode cX3_bestTwo 17 = .ok (.iload_n 3, 1) := by decide +kernel
theorem dX3_bestTwo_18 : decode cX3_bestTwo 18 = .ok (.aload_n 0, 1) := by decide +kernel
theorem dX3_bestTwo_19 : decode cX3_bestTwo 19 = .ok (.getfield 34, 3) := by decide +kernel
theorem dX3_bestTwo_22 : decode cX3_bestTwo 22 = .ok (.getfield 55, 3) := by decide +kernel
theorem dX3_bestTwo_25 : decode cX3_bestTwo 25 = .ok (.if_icmp .ge 92, 3) := by decide +kernel
theorem dX3_bestTwo_28 : decode cX3_bestTwo 28 = .ok (.aload_n 0, 1) := by decide +kernel
theorem dX3_bestTwo_29 : decode cX3_bestTwo 29 = .ok (.getfield 34, 3) := by decide +kernel
theorem dX3_bestTwo_32 : decode cX3_bestTwo 32 = .ok (.iload_n 3, 1) := by decide +kernel
theorem dX3_bestTwo_33 : decode cX3_bestTwo 33 = .ok (.invokevirtual 115, 3) := by decide +kernel
theorem dX3_bestTwo_36 : decode cX3_bestTwo 36 = .ok (.ifCond .ne 75, 3) := by decide +kernel
theorem dX3_bestTwo_39 : decode cX3_bestTwo 39 = .ok (.aload_n 0, 1) := by decide +kernel
theorem dX3_bestTwo_40 : decode cX3_bestTwo 40 = .ok (.getfield 38, 3) := by decide +kernel
theorem dX3_bestTwo_43 : decode cX3_bestTwo 43 = .ok (.iload_n 3, 1) := by decide +kernel
theorem dX3_bestTwo_44 : decode cX3_bestTwo 44 = .ok (.invokevirtual 118, 3) := by decide +kernel
theorem dX3_bestTwo_47 : decode cX3_bestTwo 47 = .ok (.aload_n 0, 1) := by decide +kernel
theorem dX3_bestTwo_48 : decode cX3_bestTwo 48 = .ok (.getfield 38, 3) := by decide +kernel
theorem dX3_bestTwo_51 : decode cX3_bestTwo 51 = .ok (.invokevirtual 243, 3) := by decide +kernel
theorem dX3_bestTwo_54 : decode cX3_bestTwo 54 = .ok (.istore 4, 2) := by decide +kernel
theorem dX3_bestTwo_56 : decode cX3_bestTwo 56 = .ok (.iload 4, 2) := by decide +kernel
theorem dX3_bestTwo_58 : decode cX3_bestTwo 58 = .ok (.iconst (-1), 1) := by decide +kernel
theorem dX3_bestTwo_59 : decode cX3_bestTwo 59 = .ok (.if_icmp .eq 45, 3) := by decide +kernel
theorem dX3_bestTwo_62 : decode cX3_bestTwo 62 = .ok (.aload_n 0, 1) := by decide +kernel
theorem dX3_bestTwo_63 : decode cX3_bestTwo 63 = .ok (.getfield 34, 3) := by decide +kernel
theorem dX3_bestTwo_66 : decode cX3_bestTwo 66 = .ok (.iload_n 3, 1) := by decide +kernel
theorem dX3_bestTwo_67 : decode cX3_bestTwo 67 = .ok (.invokevirtual 136, 3) := by decide +kernel
theorem dX3_bestTwo_70 : decode cX3_bestTwo 70 = .ok (.aload_n 0, 1) := by decide +kernel
theorem dX3_bestTwo_71 : decode cX3_bestTwo 71 = .ok (.getfield 38, 3) := by decide +kernel
theorem dX3_bestTwo_74 : decode cX3_bestTwo 74 = .ok (.iload 4, 2) := by decide +kernel
theorem dX3_bestTwo_76 : decode cX3_bestTwo 76 = .ok (.invokevirtual 136, 3) := by decide +kernel
theorem dX3_bestTwo_79 : decode cX3_bestTwo 79 = .ok (.iadd, 1) := by decide +kernel
theorem dX3_bestTwo_80 : decode cX3_bestTwo 80 = .ok (.istore 5, 2) := by decide +kernel
theorem dX3_bestTwo_82 : decode cX3_bestTwo 82 = .ok (.iload_n 1, 1) := by decide +kernel
theorem dX3_bestTwo_83 : decode cX3_bestTwo 83 = .ok (.iconst (-1), 1) := by decide +kernel
theorem dX3_bestTwo_84 : decode cX3_bestTwo 84 = .ok (.if_icmp .eq 9, 3) := by decide +kernel
theorem dX3_bestTwo_87 : decode cX3_bestTwo 87 = .ok (.iload 5, 2) := by decide +kernel
theorem dX3_bestTwo_89 : decode cX3_bestTwo 89 = .ok (.iload_n 2, 1) := by decide +kernel
theorem dX3_bestTwo_90 : decode cX3_bestTwo 90 = .ok (.if_icmp .le 14, 3) := by decide +kernel
theorem dX3_bestTwo_93 : decode cX3_bestTwo 93 = .ok (.bipush 100, 2) := by decide +kernel
theorem dX3_bestTwo_95 : decode cX3_bestTwo 95 = .ok (.iload_n 3, 1) := by decide +kernel
theorem dX3_bestTwo_96 : decode cX3_bestTwo 96 = .ok (.imul, 1) := by decide +kernel
theorem dX3_bestTwo_97 : decode cX3_bestTwo 97 = .ok (.iload 4, 2) := by decide +kernel
theorem dX3_bestTwo_99 : decode cX3_bestTwo 99 = .ok (.iadd, 1) := by decide +kernel
theorem dX3_bestTwo_100 : decode cX3_bestTwo 100 = .ok (.istore_n 1, 1) := by decide +kernel
theorem dX3_bestTwo_101 : decode cX3_bestTwo 101 = .ok (.iload 5, 2) := by decide +kernel
theorem dX3_bestTwo_103 : decode cX3_bestTwo 103 = .ok (.istore_n 2, 1) := by decide +kernel
theorem dX3_bestTwo_104 : decode cX3_bestTwo 104 = .ok (.aload_n 0, 1) := by decide +kernel
theorem dX3_bestTwo_105 : decode cX3_bestTwo 105 = .ok (.getfield 38, 3) := by decide +kernel
theorem dX3_bestTwo_108 : decode cX3_bestTwo 108 = .ok (.invokevirtual 129, 3) := by decide +kernel
theorem dX3_bestTwo_111 : decode cX3_bestTwo 111 = .ok (.iinc 3 1, 3) := by decide +kernel
theorem dX3_bestTwo_114 : decode cX3_bestTwo 114 = .ok (.goto (-97), 3) := by decide +kernel
theorem dX3_bestTwo_117 : decode cX3_bestTwo 117 = .ok (.iload_n 1, 1) := by decide +kernel
theorem dX3_bestTwo_118 : decode cX3_bestTwo 118 = .ok (.ireturn, 1) := by decide +kernel
theorem dX3_palest_0 : decode cX3_palest 0 = .ok (.iconst (-1), 1) := by decide +kernel
theorem dX3_palest_1 : decode cX3_palest 1 = .ok (.istore_n 1, 1) := by decide +kernel
theorem dX3_palest_2 : decode cX3_palest 2 = .ok (.iconst 0, 1) := by decide +kernel
theorem dX3_palest_3 : decode cX3_palest 3 = .ok (.istore_n 2, 1) := by decide +kernel
theorem dX3_palest_4 : decode cX3_palest 4 = .ok (.iconst 0, 1) := by decide +kernel
theorem dX3_palest_5 : decode cX3_palest 5 = .ok (.istore_n 3, 1) := by decide +kernel
theorem dX3_palest_6 : decode cX3_palest 6 = .ok (.iload_n 3, 1) := by decide +kernel
theorem dX3_palest_7 : decode cX3_palest 7 = .ok (.sipush 144, 3) := by decide +kernel
theorem dX3_palest_10 : decode cX3_palest 10 = .ok (.if_icmp .ge 41, 3) := by decide +kernel
theorem dX3_palest_13 : decode cX3_palest 13 = .ok (.aload_n 0, 1) := by decide +kernel
theorem dX3_palest_14 : decode cX3_palest 14 = .ok (.getfield 34, 3) := by decide +kernel
theorem dX3_palest_17 : decode cX3_palest 17 = .ok (.iload_n 3, 1) := by decide +kernel
theorem dX3_palest_18 : decode cX3_palest 18 = .ok (.invokevirtual 230, 3) := by decide +kernel
theorem dX3_palest_21 : decode cX3_palest 21 = .ok (.istore 4, 2) := by decide +kernel
theorem dX3_palest_23 : decode cX3_palest 23 = .ok (.iload 4, 2) := by decide +kernel
theorem dX3_palest_25 : decode cX3_palest 25 = .ok (.iload_n 2, 1) := by decide +kernel
theorem dX3_palest_26 : decode cX3_palest 26 = .ok (.if_icmp .le 19, 3) := by decide +kernel
theorem dX3_palest_29 : decode cX3_palest 29 = .ok (.iload 4, 2) := by decide +kernel
theorem dX3_palest_31 : decode cX3_palest 31 = .ok (.istore_n 2, 1) := by decide +kernel
theorem dX3_palest_32 : decode cX3_palest 32 = .ok (.bipush 100, 2) := by decide +kernel
theorem dX3_palest_34 : decode cX3_palest 34 = .ok (.iload_n 3, 1) := by decide +kernel
theorem dX3_palest_35 : decode cX3_palest 35 = .ok (.bipush 12, 2) := by decide +kernel
theorem dX3_palest_37 : decode cX3_palest 37 = .ok (.idiv, 1) := by decide +kernel
theorem dX3_palest_38 : decode cX3_palest 38 = .ok (.imul, 1) := by decide +kernel
theorem dX3_palest_39 : decode cX3_palest 39 = .ok (.iload_n 3, 1) := by decide +kernel
theorem dX3_palest_40 : decode cX3_palest 40 = .ok (.bipush 12, 2) := by decide +kernel
theorem dX3_palest_42 : decode cX3_palest 42 = .ok (.irem, 1) := by decide +kernel
theorem dX3_palest_43 : decode cX3_palest 43 = .ok (.iadd, 1) := by decide +kernel
theorem dX3_palest_44 : decode cX3_palest 44 = .ok (.istore_n 1, 1) := by decide +kernel
theorem dX3_palest_45 : decode cX3_palest 45 = .ok (.iinc 3 1, 3) := by decide +kernel
theorem dX3_palest_48 : decode cX3_palest 48 = .ok (.goto (-42), 3) := by decide +kernel
theorem dX3_palest_51 : decode cX3_palest 51 = .ok (.iload_n 1, 1) := by decide +kernel
theorem dX3_palest_52 : decode cX3_palest 52 = .ok (.ireturn, 1) := by decide +kernel
theorem dX3_bestSpool_0 : decode cX3_bestSpool 0 = .ok (.aload_n 0, 1) := by decide +kernel
theorem dX3_bestSpool_1 : decode cX3_bestSpool 1 = .ok (.getfield 38, 3) := by decide +kernel
theorem dX3_bestSpool_4 : decode cX3_bestSpool 4 = .ok (.aload_n 0, 1) := by decide +kernel
theorem dX3_bestSpool_5 : decode cX3_bestSpool 5 = .ok (.getfield 34, 3) := by decide +kernel
theorem dX3_bestSpool_8 : decode cX3_bestSpool 8 = .ok (.invokevirtual 183, 3) := by decide +kernel
theorem dX3_bestSpool_11 : decode cX3_bestSpool 11 = .ok (.iconst (-1), 1) := by decide +kernel
theorem dX3_bestSpool_12 : decode cX3_bestSpool 12 = .ok (.istore_n 1, 1) := by decide +kernel
theorem dX3_bestSpool_13 : decode cX3_bestSpool 13 = .ok (.iconst 0, 1) := by decide +kernel
theorem dX3_bestSpool_14 : decode cX3_bestSpool 14 = .ok (.istore_n 2, 1) := by decide +kernel
theorem dX3_bestSpool_15 : decode cX3_bestSpool 15 = .ok (.iconst 0, 1) := by decide +kernel
theorem dX3_bestSpool_16 : decode cX3_bestSpool 16 = .ok (.istore_n 3, 1) := by decide +kernel
theorem dX3_bestSpool_17 : decode cX3_bestSpool 17 = .ok (.iload_n 3, 1) := by decide +kernel
theorem dX3_bestSpool_18 : decode cX3_bestSpool 18 = .ok (.iconst 3, 1) := by decide +kernel
theorem dX3_bestSpool_19 : decode cX3_bestSpool 19 = .ok (.if_icmp .ge 59, 3) := by decide +kernel
theorem dX3_bestSpool_22 : decode cX3_bestSpool 22 = .ok (.aload_n 0, 1) := by decide +kernel
theorem dX3_bestSpool_23 : decode cX3_bestSpool 23 = .ok (.getfield 38, 3) := by decide +kernel
theorem dX3_bestSpool_26 : decode cX3_bestSpool 26 = .ok (.iload_n 3, 1) := by decide +kernel
theorem dX3_bestSpool_27 : decode cX3_bestSpool 27 = .ok (.putfield 76, 3) := by decide +kernel
theorem dX3_bestSpool_30 : decode cX3_bestSpool 30 = .ok (.aload_n 0, 1) := by decide +kernel
theorem dX3_bestSpool_31 : decode cX3_bestSpool 31 = .ok (.getfield 38, 3) := by decide +kernel
theorem dX3_bestSpool_34 : decode cX3_bestSpool 34 = .ok (.invokevirtual 132, 3) := by decide +kernel
theorem dX3_bestSpool_37 : decode cX3_bestSpool 37 = .ok (.istore 4, 2) := by decide +kernel
theorem dX3_bestSpool_39 : decode cX3_bestSpool 39 = .ok (.iload 4, 2) := by decide +kernel
theorem dX3_bestSpool_41 : decode cX3_bestSpool 41 = .ok (.iconst (-1), 1) := by decide +kernel
theorem dX3_bestSpool_42 : decode cX3_bestSpool 42 = .ok (.if_icmp .eq 30, 3) := by decide +kernel
theorem dX3_bestSpool_45 : decode cX3_bestSpool 45 = .ok (.aload_n 0, 1) := by decide +kernel
theorem dX3_bestSpool_46 : decode cX3_bestSpool 46 = .ok (.getfield 38, 3) := by decide +kernel
theorem dX3_bestSpool_49 : decode cX3_bestSpool 49 = .ok (.iload 4, 2) := by decide +kernel
theorem dX3_bestSpool_51 : decode cX3_bestSpool 51 = .ok (.invokevirtual 136, 3) := by decide +kernel
theorem dX3_bestSpool_54 : decode cX3_bestSpool 54 = .ok (.istore 5, 2) := by decide +kernel
theorem dX3_bestSpool_56 : decode cX3_bestSpool 56 = .ok (.iload_n 1, 1) := by decide +kernel
theorem dX3_bestSpool_57 : decode cX3_bestSpool 57 = .ok (.iconst (-1), 1) := by decide +kernel
theorem dX3_bestSpool_58 : decode cX3_bestSpool 58 = .ok (.if_icmp .eq 9, 3) := by decide +kernel
theorem dX3_bestSpool_61 : decode cX3_bestSpool 61 = .ok (.iload 5, 2) := by decide +kernel
theorem dX3_bestSpool_63 : decode cX3_bestSpool 63 = .ok (.iload_n 2, 1) := by decide +kernel
theorem dX3_bestSpool_64 : decode cX3_bestSpool 64 = .ok (.if_icmp .le 8, 3) := by decide +kernel
theorem dX3_bestSpool_67 : decode cX3_bestSpool 67 = .ok (.iload_n 3, 1) := by decide +kernel
theorem dX3_bestSpool_68 : decode cX3_bestSpool 68 = .ok (.istore_n 1, 1) := by decide +kernel
theorem dX3_bestSpool_69 : decode cX3_bestSpool 69 = .ok (.iload 5, 2) := by decide +kernel
theorem dX3_bestSpool_71 : decode cX3_bestSpool 71 = .ok (.istore_n 2, 1) := by decide +kernel
theorem dX3_bestSpool_72 : decode cX3_bestSpool 72 = .ok (.iinc 3 1, 3) := by decide +kernel
theorem dX3_bestSpool_75 : decode cX3_bestSpool 75 = .ok (.goto (-58), 3) := by decide +kernel
theorem dX3_bestSpool_78 : decode cX3_bestSpool 78 = .ok (.iload_n 1, 1) := by decide +kernel
theorem dX3_bestSpool_79 : decode cX3_bestSpool 79 = .ok (.ireturn, 1) := by decide +kernel
theorem dX3_shownShare_0 : decode cX3_shownShare 0 = .ok (.aload_n 0, 1) := by decide +kernel
theorem dX3_shownShare_1 : decode cX3_shownShare 1 = .ok (.getfield 34, 3) := by decide +kernel
theorem dX3_shownShare_4 : decode cX3_shownShare 4 = .ok (.iconst 0, 1) := by decide +kernel
theorem dX3_shownShare_5 : decode cX3_shownShare 5 = .ok (.invokevirtual 240, 3) := by decide +kernel
theorem dX3_shownShare_8 : decode cX3_shownShare 8 = .ok (.i2d, 1) := by decide +kernel
theorem dX3_shownShare_9 : decode cX3_shownShare 9 = .ok (.ldc2_w 246, 3) := by decide +kernel
theorem dX3_shownShare_12 : decode cX3_shownShare 12 = .ok (.ddiv, 1) := by decide +kernel
theorem dX3_shownShare_13 : decode cX3_shownShare 13 = .ok (.dreturn, 1) := by decide +kernel
theorem dX3_digest_0 : decode cX3_digest 0 = .ok (.ldc2_w 248, 3) := by decide +kernel
theorem dX3_digest_3 : decode cX3_digest 3 = .ok (.lstore_n 1, 1) := by decide +kernel
theorem dX3_digest_4 : decode cX3_digest 4 = .ok (.iconst 0, 1) := by decide +kernel
theorem dX3_digest_5 : decode cX3_digest 5 = .ok (.istore_n 3, 1) := by decide +kernel
theorem dX3_digest_6 : decode cX3_digest 6 = .ok (.iload_n 3, 1) := by decide +kernel
theorem dX3_digest_7 : decode cX3_digest 7 = .ok (.bipush 13, 2) := by decide +kernel
theorem dX3_digest_9 : decode cX3_digest 9 = .ok (.if_icmp .ge 22, 3) := by decide +kernel
theorem dX3_digest_12 : decode cX3_digest 12 = .ok (.ldc2_w 250, 3) := by decide +kernel
theorem dX3_digest_15 : decode cX3_digest 15 = .ok (.lload_n 1, 1) := by decide +kernel
theorem dX3_digest_16 : decode cX3_digest 16 = .ok (.lmul, 1) := by decide +kernel
theorem dX3_digest_17 : decode cX3_digest 17 = .ok (.aload_n 0, 1) := by decide +kernel
theorem dX3_digest_18 : decode cX3_digest 18 = .ok (.iload_n 3, 1) := by decide +kernel
theorem dX3_digest_19 : decode cX3_digest 19 = .ok (.invokevirtual 252, 3) := by decide +kernel
theorem dX3_digest_22 : decode cX3_digest 22 = .ok (.i2l, 1) := by decide +kernel
theorem dX3_digest_23 : decode cX3_digest 23 = .ok (.ladd, 1) := by decide +kernel
theorem dX3_digest_24 : decode cX3_digest 24 = .ok (.lstore_n 1, 1) := by decide +kernel
theorem dX3_digest_25 : decode cX3_digest 25 = .ok (.iinc 3 1, 3) := by decide +kernel
theorem dX3_digest_28 : decode cX3_digest 28 = .ok (.goto (-22), 3) := by decide +kernel
theorem dX3_digest_31 : decode cX3_digest 31 = .ok (.iconst 0, 1) := by decide +kernel
theorem dX3_digest_32 : decode cX3_digest 32 = .ok (.istore_n 3, 1) := by decide +kernel
theorem dX3_digest_33 : decode cX3_digest 33 = .ok (.iload_n 3, 1) := by decide +kernel
theorem dX3_digest_34 : decode cX3_digest 34 = .ok (.iconst 3, 1) := by decide +kernel
theorem dX3_digest_35 : decode cX3_digest 35 = .ok (.if_icmp .ge 26, 3) := by decide +kernel
theorem dX3_digest_38 : decode cX3_digest 38 = .ok (.ldc2_w 250, 3) := by decide +kernel
theorem dX3_digest_41 : decode cX3_digest 41 = .ok (.lload_n 1, 1) := by decide +kernel
theorem dX3_digest_42 : decode cX3_digest 42 = .ok (.lmul, 1) := by decide +kernel
theorem dX3_digest_43 : decode cX3_digest 43 = .ok (.aload_n 0, 1) := by decide +kernel
theorem dX3_digest_44 : decode cX3_digest 44 = .ok (.getfield 34, 3) := by decide +kernel
theorem dX3_digest_47 : decode cX3_digest 47 = .ok (.getfield 104, 3) := by decide +kernel
theorem dX3_digest_50 : decode cX3_digest 50 = .ok (.iload_n 3, 1) := by decide +kernel
theorem dX3_digest_51 : decode cX3_digest 51 = .ok (.iaload, 1) := by decide +kernel
theorem dX3_digest_52 : decode cX3_digest 52 = .ok (.i2l, 1) := by decide +kernel
theorem dX3_digest_53 : decode cX3_digest 53 = .ok (.ladd, 1) := by decide +kernel
theorem dX3_digest_54 : decode cX3_digest 54 = .ok (.lstore_n 1, 1) := by decide +kernel
theorem dX3_digest_55 : decode cX3_digest 55 = .ok (.iinc 3 1, 3) := by decide +kernel
theorem dX3_digest_58 : decode cX3_digest 58 = .ok (.goto (-25), 3) := by decide +kernel
theorem dX3_digest_61 : decode cX3_digest 61 = .ok (.aload_n 0, 1) := by decide +kernel
theorem dX3_digest_62 : decode cX3_digest 62 = .ok (.lload_n 1, 1) := by decide +kernel
theorem dX3_digest_63 : decode cX3_digest 63 = .ok (.invokevirtual 255, 3) := by decide +kernel
theorem dX3_digest_66 : decode cX3_digest 66 = .ok (.lstore_n 1, 1) := by decide +kernel
theorem dX3_digest_67 : decode cX3_digest 67 = .ok (.aload_n 0, 1) := by decide +kernel
theorem dX3_digest_68 : decode cX3_digest 68 = .ok (.lload_n 1, 1) := by decide +kernel
theorem dX3_digest_69 : decode cX3_digest 69 = .ok (.invokevirtual 259, 3) := by decide +kernel
theorem dX3_digest_72 : decode cX3_digest 72 = .ok (.lstore_n 1, 1) := by decide +kernel
theorem dX3_digest_73 : decode cX3_digest 73 = .ok (.aload_n 0, 1) := by decide +kernel
theorem dX3_digest_74 : decode cX3_digest 74 = .ok (.lload_n 1, 1) := by decide +kernel
theorem dX3_digest_75 : decode cX3_digest 75 = .ok (.invokevirtual 262, 3) := by decide +kernel
theorem dX3_digest_78 : decode cX3_digest 78 = .ok (.lstore_n 1, 1) := by decide +kernel
theorem dX3_digest_79 : decode cX3_digest 79 = .ok (.aload_n 0, 1) := by decide +kernel
theorem dX3_digest_80 : decode cX3_digest 80 = .ok (.lload_n 1, 1) := by decide +kernel
theorem dX3_digest_81 : decode cX3_digest 81 = .ok (.invokevirtual 265, 3) := by decide +kernel
theorem dX3_digest_84 : decode cX3_digest 84 = .ok (.lstore_n 1, 1) := by decide +kernel
theorem dX3_digest_85 : decode cX3_digest 85 = .ok (.aload_n 0, 1) := by decide +kernel
theorem dX3_digest_86 : decode cX3_digest 86 = .ok (.lload_n 1, 1) := by decide +kernel
theorem dX3_digest_87 : decode cX3_digest 87 = .ok (.iconst 0, 1) := by decide +kernel
theorem dX3_digest_88 : decode cX3_digest 88 = .ok (.iconst 1, 1) := by decide +kernel
theorem dX3_digest_89 : decode cX3_digest 89 = .ok (.invokevirtual 268, 3) := by decide +kernel
theorem dX3_digest_92 : decode cX3_digest 92 = .ok (.lstore_n 1, 1) := by decide +kernel
theorem dX3_digest_93 : decode cX3_digest 93 = .ok (.aload_n 0, 1) := by decide +kernel
theorem dX3_digest_94 : decode cX3_digest 94 = .ok (.lload_n 1, 1) := by decide +kernel
theorem dX3_digest_95 : decode cX3_digest 95 = .ok (.iconst 0, 1) := by decide +kernel
theorem dX3_digest_96 : decode cX3_digest 96 = .ok (.iconst 2, 1) := by decide +kernel
theorem dX3_digest_97 : decode cX3_digest 97 = .ok (.invokevirtual 268, 3) := by decide +kernel
theorem dX3_digest_100 : decode cX3_digest 100 = .ok (.lstore_n 1, 1) := by decide +kernel
theorem dX3_digest_101 : decode cX3_digest 101 = .ok (.ldc2_w 250, 3) := by decide +kernel
theorem dX3_digest_104 : decode cX3_digest 104 = .ok (.lload_n 1, 1) := by decide +kernel
theorem dX3_digest_105 : decode cX3_digest 105 = .ok (.lmul, 1) := by decide +kernel
theorem dX3_digest_106 : decode cX3_digest 106 = .ok (.aload_n 0, 1) := by decide +kernel
theorem dX3_digest_107 : decode cX3_digest 107 = .ok (.invokevirtual 272, 3) := by decide +kernel
theorem dX3_digest_110 : decode cX3_digest 110 = .ok (.i2l, 1) := by decide +kernel
theorem dX3_digest_111 : decode cX3_digest 111 = .ok (.ladd, 1) := by decide +kernel
theorem dX3_digest_112 : decode cX3_digest 112 = .ok (.lstore_n 1, 1) := by decide +kernel
theorem dX3_digest_113 : decode cX3_digest 113 = .ok (.ldc2_w 250, 3) := by decide +kernel
theorem dX3_digest_116 : decode cX3_digest 116 = .ok (.lload_n 1, 1) := by decide +kernel
theorem dX3_digest_117 : decode cX3_digest 117 = .ok (.lmul, 1) := by decide +kernel
theorem dX3_digest_118 : decode cX3_digest 118 = .ok (.aload_n 0, 1) := by decide +kernel
theorem dX3_digest_119 : decode cX3_digest 119 = .ok (.invokevirtual 275, 3) := by decide +kernel
theorem dX3_digest_122 : decode cX3_digest 122 = .ok (.i2l, 1) := by decide +kernel
theorem dX3_digest_123 : decode cX3_digest 123 = .ok (.ladd, 1) := by decide +kernel
theorem dX3_digest_124 : decode cX3_digest 124 = .ok (.lstore_n 1, 1) := by decide +kernel
theorem dX3_digest_125 : decode cX3_digest 125 = .ok (.ldc2_w 250, 3) := by decide +kernel
theorem dX3_digest_128 : decode cX3_digest 128 = .ok (.lload_n 1, 1) := by decide +kernel
theorem dX3_digest_129 : decode cX3_digest 129 = .ok (.lmul, 1) := by decide +kernel
theorem dX3_digest_130 : decode cX3_digest 130 = .ok (.aload_n 0, 1) := by decide +kernel
theorem dX3_digest_131 : decode cX3_digest 131 = .ok (.invokevirtual 278, 3) := by decide +kernel
theorem dX3_digest_134 : decode cX3_digest 134 = .ok (.i2l, 1) := by decide +kernel
theorem dX3_digest_135 : decode cX3_digest 135 = .ok (.ladd, 1) := by decide +kernel
theorem dX3_digest_136 : decode cX3_digest 136 = .ok (.lstore_n 1, 1) := by decide +kernel
theorem dX3_digest_137 : decode cX3_digest 137 = .ok (.ldc2_w 250, 3) := by decide +kernel
theorem dX3_digest_140 : decode cX3_digest 140 = .ok (.lload_n 1, 1) := by decide +kernel
theorem dX3_digest_141 : decode cX3_digest 141 = .ok (.lmul, 1) := by decide +kernel
theorem dX3_digest_142 : decode cX3_digest 142 = .ok (.aload_n 0, 1) := by decide +kernel
theorem dX3_digest_143 : decode cX3_digest 143 = .ok (.invokevirtual 281, 3) := by decide +kernel
theorem dX3_digest_146 : decode cX3_digest 146 = .ok (.i2l, 1) := by decide +kernel
theorem dX3_digest_147 : decode cX3_digest 147 = .ok (.ladd, 1) := by decide +kernel
theorem dX3_digest_148 : decode cX3_digest 148 = .ok (.lstore_n 1, 1) := by decide +kernel
theorem dX3_digest_149 : decode cX3_digest 149 = .ok (.ldc2_w 250, 3) := by decide +kernel
theorem dX3_digest_152 : decode cX3_digest 152 = .ok (.lload_n 1, 1) := by decide +kernel
theorem dX3_digest_153 : decode cX3_digest 153 = .ok (.lmul, 1) := by decide +kernel
theorem dX3_digest_154 : decode cX3_digest 154 = .ok (.aload_n 0, 1) := by decide +kernel
theorem dX3_digest_155 : decode cX3_digest 155 = .ok (.invokevirtual 284, 3) := by decide +kernel
theorem dX3_digest_158 : decode cX3_digest 158 = .ok (.invokestatic 288, 3) := by decide +kernel
theorem dX3_digest_161 : decode cX3_digest 161 = .ok (.ladd, 1) := by decide +kernel
theorem dX3_digest_162 : decode cX3_digest 162 = .ok (.lstore_n 1, 1) := by decide +kernel
theorem dX3_digest_163 : decode cX3_digest 163 = .ok (.iconst 0, 1) := by decide +kernel
theorem dX3_digest_164 : decode cX3_digest 164 = .ok (.istore_n 3, 1) := by decide +kernel
theorem dX3_digest_165 : decode cX3_digest 165 = .ok (.iload_n 3, 1) := by decide +kernel
theorem dX3_digest_166 : decode cX3_digest 166 = .ok (.iconst 2, 1) := by decide +kernel
theorem dX3_digest_167 : decode cX3_digest 167 = .ok (.if_icmp .ge 31, 3) := by decide +kernel
theorem dX3_digest_170 : decode cX3_digest 170 = .ok (.ldc2_w 250, 3) := by decide +kernel
theorem dX3_digest_173 : decode cX3_digest 173 = .ok (.lload_n 1, 1) := by decide +kernel
theorem dX3_digest_174 : decode cX3_digest 174 = .ok (.lmul, 1) := by decide +kernel
theorem dX3_digest_175 : decode cX3_digest 175 = .ok (.aload_n 0, 1) := by decide +kernel
theorem dX3_digest_176 : decode cX3_digest 176 = .ok (.getfield 22, 3) := by decide +kernel
theorem dX3_digest_179 : decode cX3_digest 179 = .ok (.iload_n 3, 1) := by decide +kernel
theorem dX3_digest_180 : decode cX3_digest 180 = .ok (.aaload, 1) := by decide +kernel
theorem dX3_digest_181 : decode cX3_digest 181 = .ok (.ifnonnull 7, 3) := by decide +kernel
theorem dX3_digest_184 : decode cX3_digest 184 = .ok (.iconst 0, 1) := by decide +kernel
theorem dX3_digest_185 : decode cX3_digest 185 = .ok (.goto 4, 3) := by decide +kernel
theorem dX3_digest_188 : decode cX3_digest 188 = .ok (.iconst 1, 1) := by decide +kernel
theorem dX3_digest_189 : decode cX3_digest 189 = .ok (.i2l, 1) := by decide +kernel
theorem dX3_digest_190 : decode cX3_digest 190 = .ok (.ladd, 1) := by decide +kernel
theorem dX3_digest_191 : decode cX3_digest 191 = .ok (.lstore_n 1, 1) := by decide +kernel
theorem dX3_digest_192 : decode cX3_digest 192 = .ok (.iinc 3 1, 3) := by decide +kernel
theorem dX3_digest_195 : decode cX3_digest 195 = .ok (.goto (-30), 3) := by decide +kernel
theorem dX3_digest_198 : decode cX3_digest 198 = .ok (.ldc2_w 250, 3) := by decide +kernel
theorem dX3_digest_201 : decode cX3_digest 201 = .ok (.lload_n 1, 1) := by decide +kernel
theorem dX3_digest_202 : decode cX3_digest 202 = .ok (.lmul, 1) := by decide +kernel
theorem dX3_digest_203 : decode cX3_digest 203 = .ok (.aload_n 0, 1) := by decide +kernel
theorem dX3_digest_204 : decode cX3_digest 204 = .ok (.getfield 16, 3) := by decide +kernel
theorem dX3_digest_207 : decode cX3_digest 207 = .ok (.getfield 155, 3) := by decide +kernel
theorem dX3_digest_210 : decode cX3_digest 210 = .ok (.i2l, 1) := by decide +kernel
theorem dX3_digest_211 : decode cX3_digest 211 = .ok (.ladd, 1) := by decide +kernel
theorem dX3_digest_212 : decode cX3_digest 212 = .ok (.lstore_n 1, 1) := by decide +kernel
theorem dX3_digest_213 : decode cX3_digest 213 = .ok (.iconst 0, 1) := by decide +kernel
theorem dX3_digest_214 : decode cX3_digest 214 = .ok (.istore_n 3, 1) := by decide +kernel
theorem dX3_digest_215 : decode cX3_digest 215 = .ok (.iload_n 3, 1) := by decide +kernel
theorem dX3_digest_216 : decode cX3_digest 216 = .ok (.aload_n 0, 1) := by decide +kernel
theorem dX3_digest_217 : decode cX3_digest 217 = .ok (.getfield 16, 3) := by decide +kernel
theorem dX3_digest_220 : decode cX3_digest 220 = .ok (.getfield 155, 3) := by decide +kernel
theorem dX3_digest_223 : decode cX3_digest 223 = .ok (.if_icmp .ge 26, 3) := by decide +kernel
theorem dX3_digest_226 : decode cX3_digest 226 = .ok (.ldc2_w 250, 3) := by decide +kernel
theorem dX3_digest_229 : decode cX3_digest 229 = .ok (.lload_n 1, 1) := by decide +kernel
theorem dX3_digest_230 : decode cX3_digest 230 = .ok (.lmul, 1) := by decide +kernel
theorem dX3_digest_231 : decode cX3_digest 231 = .ok (.aload_n 0, 1) := by decide +kernel
theorem dX3_digest_232 : decode cX3_digest 232 = .ok (.getfield 16, 3) := by decide +kernel
theorem dX3_digest_235 : decode cX3_digest 235 = .ok (.getfield 292, 3) := by decide +kernel
theorem dX3_digest_238 : decode cX3_digest 238 = .ok (.iload_n 3, 1) := by decide +kernel
theorem dX3_digest_239 : decode cX3_digest 239 = .ok (.caload, 1) := by decide +kernel
theorem dX3_digest_240 : decode cX3_digest 240 = .ok (.i2l, 1) := by decide +kernel
theorem dX3_digest_241 : decode cX3_digest 241 = .ok (.ladd, 1) := by decide +kernel
theorem dX3_digest_242 : decode cX3_digest 242 = .ok (.lstore_n 1, 1) := by decide +kernel
theorem dX3_digest_243 : decode cX3_digest 243 = .ok (.iinc 3 1, 3) := by decide +kernel
theorem dX3_digest_246 : decode cX3_digest 246 = .ok (.goto (-31), 3) := by decide +kernel
theorem dX3_digest_249 : decode cX3_digest 249 = .ok (.lload_n 1, 1) := by decide +kernel
theorem dX3_digest_250 : decode cX3_digest 250 = .ok (.lreturn, 1) := by decide +kernel
theorem dX3_withNails_0 : decode cX3_withNails 0 = .ok (.lload_n 1, 1) := by decide +kernel
theorem dX3_withNails_1 : decode cX3_withNails 1 = .ok (.lstore_n 3, 1) := by decide +kernel
theorem dX3_withNails_2 : decode cX3_withNails 2 = .ok (.iconst 0, 1) := by decide +kernel
theorem dX3_withNails_3 : decode cX3_withNails 3 = .ok (.istore 5, 2) := by decide +kernel
theorem dX3_withNails_5 : decode cX3_withNails 5 = .ok (.iload 5, 2) := by decide +kernel
theorem dX3_withNails_7 : decode cX3_withNails 7 = .ok (.aload_n 0, 1) := by decide +kernel
theorem dX3_withNails_8 : decode cX3_withNails 8 = .ok (.getfield 34, 3) := by decide +kernel
theorem dX3_withNails_11 : decode cX3_withNails 11 = .ok (.getfield 55, 3) := by decide +kernel
theorem dX3_withNails_14 : decode cX3_withNails 14 = .ok (.if_icmp .ge 68, 3) := by decide +kernel
theorem dX3_withNails_17 : decode cX3_withNails 17 = .ok (.iconst 0, 1) := by decide +kernel
theorem dX3_withNails_18 : decode cX3_withNails 18 = .ok (.istore 6, 2) := by decide +kernel
theorem dX3_withNails_20 : decode cX3_withNails 20 = .ok (.iload 6, 2) := by decide +kernel
theorem dX3_withNails_22 : decode cX3_withNails 22 = .ok (.iconst 3, 1) := by decide +kernel
theorem dX3_withNails_23 : decode cX3_withNails 23 = .ok (.if_icmp .gt 25, 3) := by decide +kernel
theorem dX3_withNails_26 : decode cX3_withNails 26 = .ok (.ldc2_w 250, 3) := by decide +kernel
theorem dX3_withNails_29 : decode cX3_withNails 29 = .ok (.lload_n 3, 1) := by decide +kernel
theorem dX3_withNails_30 : decode cX3_withNails 30 = .ok (.lmul, 1) := by decide +kernel
theorem dX3_withNails_31 : decode cX3_withNails 31 = .ok (.aload_n 0, 1) := by decide +kernel
theorem dX3_withNails_32 : decode cX3_withNails 32 = .ok (.iload 5, 2) := by decide +kernel
theorem dX3_withNails_34 : decode cX3_withNails 34 = .ok (.iload 6, 2) := by decide +kernel
theorem dX3_withNails_36 : decode cX3_withNails 36 = .ok (.invokevirtual 296, 3) := by decide +kernel
theorem dX3_withNails_39 : decode cX3_withNails 39 = .ok (.i2l, 1) := by decide +kernel
theorem dX3_withNails_40 : decode cX3_withNails 40 = .ok (.ladd, 1) := by decide +kernel
theorem dX3_withNails_41 : decode cX3_withNails 41 = .ok (.lstore_n 3, 1) := by decide +kernel
theorem dX3_withNails_42 : decode cX3_withNails 42 = .ok (.iinc 6 1, 3) := by decide +kernel
theorem dX3_withNails_45 : decode cX3_withNails 45 = .ok (.goto (-25), 3) := by decide +kernel
theorem dX3_withNails_48 : decode cX3_withNails 48 = .ok (.ldc2_w 250, 3) := by decide +kernel
theorem dX3_withNails_51 : decode cX3_withNails 51 = .ok (.lload_n 3, 1) := by decide +kernel
theorem dX3_withNails_52 : decode cX3_withNails 52 = .ok (.lmul, 1) := by decide +kernel
theorem dX3_withNails_53 : decode cX3_withNails 53 = .ok (.aload_n 0, 1) := by decide +kernel
theorem dX3_withNails_54 : decode cX3_withNails 54 = .ok (.iload 5, 2) := by decide +kernel
theorem dX3_withNails_56 : decode cX3_withNails 56 = .ok (.invokevirtual 299, 3) := by decide +kernel
theorem dX3_withNails_59 : decode cX3_withNails 59 = .ok (.i2l, 1) := by decide +kernel
theorem dX3_withNails_60 : decode cX3_withNails 60 = .ok (.ladd, 1) := by decide +kernel
theorem dX3_withNails_61 : decode cX3_withNails 61 = .ok (.lstore_n 3, 1) := by decide +kernel
theorem dX3_withNails_62 : decode cX3_withNails 62 = .ok (.ldc2_w 250, 3) := by decide +kernel
theorem dX3_withNails_65 : decode cX3_withNails 65 = .ok (.lload_n 3, 1) := by decide +kernel
theorem dX3_withNails_66 : decode cX3_withNails 66 = .ok (.lmul, 1) := by decide +kernel
theorem dX3_withNails_67 : decode cX3_withNails 67 = .ok (.aload_n 0, 1) := by decide +kernel
theorem dX3_withNails_68 : decode cX3_withNails 68 = .ok (.iload 5, 2) := by decide +kernel
theorem dX3_withNails_70 : decode cX3_withNails 70 = .ok (.invokevirtual 302, 3) := by decide +kernel
theorem dX3_withNails_73 : decode cX3_withNails 73 = .ok (.i2l, 1) := by decide +kernel
theorem dX3_withNails_74 : decode cX3_withNails 74 = .ok (.ladd, 1) := by decide +kernel
theorem dX3_withNails_75 : decode cX3_withNails 75 = .ok (.lstore_n 3, 1) := by decide +kernel
theorem dX3_withNails_76 : decode cX3_withNails 76 = .ok (.iinc 5 1, 3) := by decide +kernel
theorem dX3_withNails_79 : decode cX3_withNails 79 = .ok (.goto (-74), 3) := by decide +kernel
theorem dX3_withNails_82 : decode cX3_withNails 82 = .ok (.lload_n 3, 1) := by decide +kernel
theorem dX3_withNails_83 : decode cX3_withNails 83 = .ok (.lreturn, 1) := by decide +kernel
theorem dX3_withSpools_0 : decode cX3_withSpools 0 = .ok (.lload_n 1, 1) := by decide +kernel
theorem dX3_withSpools_1 : decode cX3_withSpools 1 = .ok (.lstore_n 3, 1) := by decide +kernel
theorem dX3_withSpools_2 : decode cX3_withSpools 2 = .ok (.iconst 0, 1) := by decide +kernel
theorem dX3_withSpools_3 : decode cX3_withSpools 3 = .ok (.istore 5, 2) := by decide +kernel
theorem dX3_withSpools_5 : decode cX3_withSpools 5 = .ok (.iload 5, 2) := by decide +kernel
theorem dX3_withSpools_7 : decode cX3_withSpools 7 = .ok (.iconst 3, 1) := by decide +kernel
theorem dX3_withSpools_8 : decode cX3_withSpools 8 = .ok (.if_icmp .ge 40, 3) := by decide +kernel
theorem dX3_withSpools_11 : decode cX3_withSpools 11 = .ok (.iconst 0, 1) := by decide +kernel
theorem dX3_withSpools_12 : decode cX3_withSpools 12 = .ok (.istore 6, 2) := by decide +kernel
theorem dX3_withSpools_14 : decode cX3_withSpools 14 = .ok (.iload 6, 2) := by decide +kernel
theorem dX3_withSpools_16 : decode cX3_withSpools 16 = .ok (.iconst 4, 1) := by decide +kernel
theorem dX3_withSpools_17 : decode cX3_withSpools 17 = .ok (.if_icmp .gt 25, 3) := by decide +kernel
theorem dX3_withSpools_20 : decode cX3_withSpools 20 = .ok (.ldc2_w 250, 3) := by decide +kernel
theorem dX3_withSpools_23 : decode cX3_withSpools 23 = .ok (.lload_n 3, 1) := by decide +kernel
theorem dX3_withSpools_24 : decode cX3_withSpools 24 = .ok (.lmul, 1) := by decide +kernel
theorem dX3_withSpools_25 : decode cX3_withSpools 25 = .ok (.aload_n 0, 1) := by decide +kernel
theorem dX3_withSpools_26 : decode cX3_withSpools 26 = .ok (.iload 5, 2) := by decide +kernel
theorem dX3_withSpools_28 : decode cX3_withSpools 28 = .ok (.iload 6, 2) := by decide +kernel
theorem dX3_withSpools_30 : decode cX3_withSpools 30 = .ok (.invokevirtual 305, 3) := by decide +kernel
theorem dX3_withSpools_33 : decode cX3_withSpools 33 = .ok (.i2l, 1) := by decide +kernel
theorem dX3_withSpools_34 : decode cX3_withSpools 34 = .ok (.ladd, 1) := by decide +kernel
theorem dX3_withSpools_35 : decode cX3_withSpools 35 = .ok (.lstore_n 3, 1) := by decide +kernel
theorem dX3_withSpools_36 : decode cX3_withSpools 36 = .ok (.iinc 6 1, 3) := by decide +kernel
theorem dX3_withSpools_39 : decode cX3_withSpools 39 = .ok (.goto (-25), 3) := by decide +kernel
theorem dX3_withSpools_42 : decode cX3_withSpools 42 = .ok (.iinc 5 1, 3) := by decide +kernel
theorem dX3_withSpools_45 : decode cX3_withSpools 45 = .ok (.goto (-40), 3) := by decide +kernel
theorem dX3_withSpools_48 : decode cX3_withSpools 48 = .ok (.lload_n 3, 1) := by decide +kernel
theorem dX3_withSpools_49 : decode cX3_withSpools 49 = .ok (.lreturn, 1) := by decide +kernel
theorem dX3_withChordsLying_0 : decode cX3_withChordsLying 0 = .ok (.lload_n 1, 1) := by decide +kernel
theorem dX3_withChordsLying_1 : decode cX3_withChordsLying 1 = .ok (.lstore_n 3, 1) := by decide +kernel
theorem dX3_withChordsLying_2 : decode cX3_withChordsLying 2 = .ok (.iconst 0, 1) := by decide +kernel
theorem dX3_withChordsLying_3 : decode cX3_withChordsLying 3 = .ok (.istore 5, 2) := by decide +kernel
theorem dX3_withChordsLying_5 : decode cX3_withChordsLying 5 = .ok (.iload 5, 2) := by decide +kernel
theorem dX3_withChordsLying_7 : decode cX3_withChordsLying 7 = .ok (.bipush 10, 2) := by decide +kernel
theorem dX3_withChordsLying_9 : decode cX3_withChordsLying 9 = .ok (.if_icmp .ge 40, 3) := by decide +kernel
theorem dX3_withChordsLying_12 : decode cX3_withChordsLying 12 = .ok (.iconst 0, 1) := by decide +kernel
theorem dX3_withChordsLying_13 : decode cX3_withChordsLying 13 = .ok (.istore 6, 2) := by decide +kernel
theorem dX3_withChordsLying_15 : decode cX3_withChordsLying 15 = .ok (.iload 6, 2) := by decide +kernel
theorem dX3_withChordsLying_17 : decode cX3_withChordsLying 17 = .ok (.iconst 2, 1) := by decide +kernel
theorem dX3_withChordsLying_18 : decode cX3_withChordsLying 18 = .ok (.if_icmp .gt 25, 3) := by decide +kernel
theorem dX3_withChordsLying_21 : decode cX3_withChordsLying 21 = .ok (.ldc2_w 250, 3) := by decide +kernel
theorem dX3_withChordsLying_24 : decode cX3_withChordsLying 24 = .ok (.lload_n 3, 1) := by decide +kernel
theorem dX3_withChordsLying_25 : decode cX3_withChordsLying 25 = .ok (.lmul, 1) := by decide +kernel
theorem dX3_withChordsLying_26 : decode cX3_withChordsLying 26 = .ok (.aload_n 0, 1) := by decide +kernel
theorem dX3_withChordsLying_27 : decode cX3_withChordsLying 27 = .ok (.iload 5, 2) := by decide +kernel
theorem dX3_withChordsLying_29 : decode cX3_withChordsLying 29 = .ok (.iload 6, 2) := by decide +kernel
theorem dX3_withChordsLying_31 : decode cX3_withChordsLying 31 = .ok (.invokevirtual 308, 3) := by decide +kernel
theorem dX3_withChordsLying_34 : decode cX3_withChordsLying 34 = .ok (.i2l, 1) := by decide +kernel
theorem dX3_withChordsLying_35 : decode cX3_withChordsLying 35 = .ok (.ladd, 1) := by decide +kernel
theorem dX3_withChordsLying_36 : decode cX3_withChordsLying 36 = .ok (.lstore_n 3, 1) := by decide +kernel
theorem dX3_withChordsLying_37 : decode cX3_withChordsLying 37 = .ok (.iinc 6 1, 3) := by decide +kernel
theorem dX3_withChordsLying_40 : decode cX3_withChordsLying 40 = .ok (.goto (-25), 3) := by decide +kernel
theorem dX3_withChordsLying_43 : decode cX3_withChordsLying 43 = .ok (.iinc 5 1, 3) := by decide +kernel
theorem dX3_withChordsLying_46 : decode cX3_withChordsLying 46 = .ok (.goto (-41), 3) := by decide +kernel
theorem dX3_withChordsLying_49 : decode cX3_withChordsLying 49 = .ok (.lload_n 3, 1) := by decide +kernel
theorem dX3_withChordsLying_50 : decode cX3_withChordsLying 50 = .ok (.lreturn, 1) := by decide +kernel
theorem dX3_withSquares_0 : decode cX3_withSquares 0 = .ok (.lload_n 1, 1) := by decide +kernel
theorem dX3_withSquares_1 : decode cX3_withSquares 1 = .ok (.lstore_n 3, 1) := by decide +kernel
theorem dX3_withSquares_2 : decode cX3_withSquares 2 = .ok (.iconst 0, 1) := by decide +kernel
theorem dX3_withSquares_3 : decode cX3_withSquares 3 = .ok (.istore 5, 2) := by decide +kernel
theorem dX3_withSquares_5 : decode cX3_withSquares 5 = .ok (.iload 5, 2) := by decide +kernel
theorem dX3_withSquares_7 : decode cX3_withSquares 7 = .ok (.bipush 12, 2) := by decide +kernel
theorem dX3_withSquares_9 : decode cX3_withSquares 9 = .ok (.if_icmp .ge 58, 3) := by decide +kernel
theorem dX3_withSquares_12 : decode cX3_withSquares 12 = .ok (.iconst 0, 1) := by decide +kernel
theorem dX3_withSquares_13 : decode cX3_withSquares 13 = .ok (.istore 6, 2) := by decide +kernel
theorem dX3_withSquares_15 : decode cX3_withSquares 15 = .ok (.iload 6, 2) := by decide +kernel
theorem dX3_withSquares_17 : decode cX3_withSquares 17 = .ok (.bipush 12, 2) := by decide +kernel
theorem dX3_withSquares_19 : decode cX3_withSquares 19 = .ok (.if_icmp .ge 42, 3) := by decide +kernel
theorem dX3_withSquares_22 : decode cX3_withSquares 22 = .ok (.iconst 0, 1) := by decide +kernel
theorem dX3_withSquares_23 : decode cX3_withSquares 23 = .ok (.istore 7, 2) := by decide +kernel
theorem dX3_withSquares_25 : decode cX3_withSquares 25 = .ok (.iload 7, 2) := by decide +kernel
theorem dX3_withSquares_27 : decode cX3_withSquares 27 = .ok (.iconst 3, 1) := by decide +kernel
theorem dX3_withSquares_28 : decode cX3_withSquares 28 = .ok (.if_icmp .gt 27, 3) := by decide +kernel
theorem dX3_withSquares_31 : decode cX3_withSquares 31 = .ok (.ldc2_w 250, 3) := by decide +kernel
theorem dX3_withSquares_34 : decode cX3_withSquares 34 = .ok (.lload_n 3, 1) := by decide +kernel
theorem dX3_withSquares_35 : decode cX3_withSquares 35 = .ok (.lmul, 1) := by decide +kernel
theorem dX3_withSquares_36 : decode cX3_withSquares 36 = .ok (.aload_n 0, 1) := by decide +kernel
theorem dX3_withSquares_37 : decode cX3_withSquares 37 = .ok (.iload 6, 2) := by decide +kernel
theorem dX3_withSquares_39 : decode cX3_withSquares 39 = .ok (.iload 5, 2) := by decide +kernel
theorem dX3_withSquares_41 : decode cX3_withSquares 41 = .ok (.iload 7, 2) := by decide +kernel
theorem dX3_withSquares_43 : decode cX3_withSquares 43 = .ok (.invokevirtual 311, 3) := by decide +kernel
theorem dX3_withSquares_46 : decode cX3_withSquares 46 = .ok (.i2l, 1) := by decide +kernel
theorem dX3_withSquares_47 : decode cX3_withSquares 47 = .ok (.ladd, 1) := by decide +kernel
theorem dX3_withSquares_48 : decode cX3_withSquares 48 = .ok (.lstore_n 3, 1) := by decide +kernel
theorem dX3_withSquares_49 : decode cX3_withSquares 49 = .ok (.iinc 7 1, 3) := by decide +kernel
theorem dX3_withSquares_52 : decode cX3_withSquares 52 = .ok (.goto (-27), 3) := by decide +kernel
theorem dX3_withSquares_55 : decode cX3_withSquares 55 = .ok (.iinc 6 1, 3) := by decide +kernel
theorem dX3_withSquares_58 : decode cX3_withSquares 58 = .ok (.goto (-43), 3) := by decide +kernel
theorem dX3_withSquares_61 : decode cX3_withSquares 61 = .ok (.iinc 5 1, 3) := by decide +kernel
theorem dX3_withSquares_64 : decode cX3_withSquares 64 = .ok (.goto (-59), 3) := by decide +kernel
theorem dX3_withSquares_67 : decode cX3_withSquares 67 = .ok (.lload_n 3, 1) := by decide +kernel
theorem dX3_withSquares_68 : decode cX3_withSquares 68 = .ok (.lreturn, 1) := by decide +kernel
theorem dX3_withChord_0 : decode cX3_withChord 0 = .ok (.lload_n 1, 1) := by decide +kernel
theorem dX3_withChord_1 : decode cX3_withChord 1 = .ok (.lstore 5, 2) := by decide +kernel
theorem dX3_withChord_3 : decode cX3_withChord 3 = .ok (.iconst 0, 1) := by decide +kernel
theorem dX3_withChord_4 : decode cX3_withChord 4 = .ok (.istore 7, 2) := by decide +kernel
theorem dX3_withChord_6 : decode cX3_withChord 6 = .ok (.iload 7, 2) := by decide +kernel
theorem dX3_withChord_8 : decode cX3_withChord 8 = .ok (.iconst 2, 1) := by decide +kernel
theorem dX3_withChord_9 : decode cX3_withChord 9 = .ok (.if_icmp .gt 28, 3) := by decide +kernel
theorem dX3_withChord_12 : decode cX3_withChord 12 = .ok (.ldc2_w 250, 3) := by decide +kernel
theorem dX3_withChord_15 : decode cX3_withChord 15 = .ok (.lload 5, 2) := by decide +kernel
theorem dX3_withChord_17 : decode cX3_withChord 17 = .ok (.lmul, 1) := by decide +kernel
theorem dX3_withChord_18 : decode cX3_withChord 18 = .ok (.aload_n 0, 1) := by decide +kernel
theorem dX3_withChord_19 : decode cX3_withChord 19 = .ok (.iload_n 3, 1) := by decide +kernel
theorem dX3_withChord_20 : decode cX3_withChord 20 = .ok (.iload 4, 2) := by decide +kernel
theorem dX3_withChord_22 : decode cX3_withChord 22 = .ok (.iload 7, 2) := by decide +kernel
theorem dX3_withChord_24 : decode cX3_withChord 24 = .ok (.invokevirtual 315, 3) := by decide +kernel
theorem dX3_withChord_27 : decode cX3_withChord 27 = .ok (.i2l, 1) := by decide +kernel
theorem dX3_withChord_28 : decode cX3_withChord 28 = .ok (.ladd, 1) := by decide +kernel
theorem dX3_withChord_29 : decode cX3_withChord 29 = .ok (.lstore 5, 2) := by decide +kernel
theorem dX3_withChord_31 : decode cX3_withChord 31 = .ok (.iinc 7 1, 3) := by decide +kernel
theorem dX3_withChord_34 : decode cX3_withChord 34 = .ok (.goto (-28), 3) := by decide +kernel
theorem dX3_withChord_37 : decode cX3_withChord 37 = .ok (.lload 5, 2) := by decide +kernel
theorem dX3_withChord_39 : decode cX3_withChord 39 = .ok (.lreturn, 1) := by decide +kernel
theorem dX3_bitsOf_0 : decode cX3_bitsOf 0 = .ok (.dload_n 0, 1) := by decide +kernel
theorem dX3_bitsOf_1 : decode cX3_bitsOf 1 = .ok (.dconst 0, 1) := by decide +kernel
theorem dX3_bitsOf_2 : decode cX3_bitsOf 2 = .ok (.dcmp .g, 1) := by decide +kernel
theorem dX3_bitsOf_3 : decode cX3_bitsOf 3 = .ok (.ifCond .gt 5, 3) := by decide +kernel
theorem dX3_bitsOf_6 : decode cX3_bitsOf 6 = .ok (.lconst 0, 1) := by decide +kernel
theorem dX3_bitsOf_7 : decode cX3_bitsOf 7 = .ok (.lreturn, 1) := by decide +kernel
theorem dX3_bitsOf_8 : decode cX3_bitsOf 8 = .ok (.dload_n 0, 1) := by decide +kernel
theorem dX3_bitsOf_9 : decode cX3_bitsOf 9 = .ok (.dstore_n 2, 1) := by decide +kernel
theorem dX3_bitsOf_10 : decode cX3_bitsOf 10 = .ok (.sipush 1023, 3) := by decide +kernel
theorem dX3_bitsOf_13 : decode cX3_bitsOf 13 = .ok (.istore 4, 2) := by decide +kernel
theorem dX3_bitsOf_15 : decode cX3_bitsOf 15 = .ok (.dload_n 2, 1) := by decide +kernel
theorem dX3_bitsOf_16 : decode cX3_bitsOf 16 = .ok (.dconst 1, 1) := by decide +kernel
theorem dX3_bitsOf_17 : decode cX3_bitsOf 17 = .ok (.dcmp .g, 1) := by decide +kernel
theorem dX3_bitsOf_18 : decode cX3_bitsOf 18 = .ok (.ifCond .ge 21, 3) := by decide +kernel
theorem dX3_bitsOf_21 : decode cX3_bitsOf 21 = .ok (.iload 4, 2) := by decide +kernel
theorem dX3_bitsOf_23 : decode cX3_bitsOf 23 = .ok (.iconst 1, 1) := by decide +kernel
theorem dX3_bitsOf_24 : decode cX3_bitsOf 24 = .ok (.if_icmp .le 15, 3) := by decide +kernel
theorem dX3_bitsOf_27 : decode cX3_bitsOf 27 = .ok (.dload_n 2, 1) := by decide +kernel
theorem dX3_bitsOf_28 : decode cX3_bitsOf 28 = .ok (.ldc2_w 318, 3) := by decide +kernel
theorem dX3_bitsOf_31 : decode cX3_bitsOf 31 = .ok (.dmul, 1) := by decide +kernel
theorem dX3_bitsOf_32 : decode cX3_bitsOf 32 = .ok (.dstore_n 2, 1) := by decide +kernel
theorem dX3_bitsOf_33 : decode cX3_bitsOf 33 = .ok (.iinc 4 (-1), 3) := by decide +kernel
theorem dX3_bitsOf_36 : decode cX3_bitsOf 36 = .ok (.goto (-21), 3) := by decide +kernel
theorem dX3_bitsOf_39 : decode cX3_bitsOf 39 = .ok (.iload 4, 2) := by decide +kernel
theorem dX3_bitsOf_41 : decode cX3_bitsOf 41 = .ok (.i2l, 1) := by decide +kernel
theorem dX3_bitsOf_42 : decode cX3_bitsOf 42 = .ok (.bipush 52, 2) := by decide +kernel
theorem dX3_bitsOf_44 : decode cX3_bitsOf 44 = .ok (.lshl, 1) := by decide +kernel
theorem dX3_bitsOf_45 : decode cX3_bitsOf 45 = .ok (.dload_n 2, 1) := by decide +kernel
theorem dX3_bitsOf_46 : decode cX3_bitsOf 46 = .ok (.dconst 1, 1) := by decide +kernel
theorem dX3_bitsOf_47 : decode cX3_bitsOf 47 = .ok (.dsub, 1) := by decide +kernel
theorem dX3_bitsOf_48 : decode cX3_bitsOf 48 = .ok (.ldc2_w 320, 3) := by decide +kernel
theorem dX3_bitsOf_51 : decode cX3_bitsOf 51 = .ok (.dmul, 1) := by decide +kernel
theorem dX3_bitsOf_52 : decode cX3_bitsOf 52 = .ok (.d2l, 1) := by decide +kernel
theorem dX3_bitsOf_53 : decode cX3_bitsOf 53 = .ok (.ladd, 1) := by decide +kernel
theorem dX3_bitsOf_54 : decode cX3_bitsOf 54 = .ok (.lreturn, 1) := by decide +kernel
theorem dX3_stepOf_0 : decode cX3_stepOf 0 = .ok (.iload_n 0, 1) := by decide +kernel
theorem dX3_stepOf_1 : decode cX3_stepOf 1 = .ok (.lookupswitch 62 #[(4, 51), (6, 54), (8, 56), (12, 58), (24, 60)], 51) := by decide +kernel
theorem dX3_stepOf_52 : decode cX3_stepOf 52 = .ok (.bipush 6, 2) := by decide +kernel
theorem dX3_stepOf_54 : decode cX3_stepOf 54 = .ok (.ireturn, 1) := by decide +kernel
theorem dX3_stepOf_55 : decode cX3_stepOf 55 = .ok (.iconst 4, 1) := by decide +kernel
theorem dX3_stepOf_56 : decode cX3_stepOf 56 = .ok (.ireturn, 1) := by decide +kernel
theorem dX3_stepOf_57 : decode cX3_stepOf 57 = .ok (.iconst 3, 1) := by decide +kernel
theorem dX3_stepOf_58 : decode cX3_stepOf 58 = .ok (.ireturn, 1) := by decide +kernel
theorem dX3_stepOf_59 : decode cX3_stepOf 59 = .ok (.iconst 2, 1) := by decide +kernel
theorem dX3_stepOf_60 : decode cX3_stepOf 60 = .ok (.ireturn, 1) := by decide +kernel
theorem dX3_stepOf_61 : decode cX3_stepOf 61 = .ok (.iconst 1, 1) := by decide +kernel
theorem dX3_stepOf_62 : decode cX3_stepOf 62 = .ok (.ireturn, 1) := by decide +kernel
theorem dX3_stepOf_63 : decode cX3_stepOf 63 = .ok (.iconst (-1), 1) := by decide +kernel
theorem dX3_stepOf_64 : decode cX3_stepOf 64 = .ok (.ireturn, 1) := by decide +kernel
theorem dX3_needNail_0 : decode cX3_needNail 0 = .ok (.iload_n 1, 1) := by decide +kernel
theorem dX3_needNail_1 : decode cX3_needNail 1 = .ok (.ifCond .lt 14, 3) := by decide +kernel
theorem dX3_needNail_4 : decode cX3_needNail 4 = .ok (.iload_n 1, 1) := by decide +kernel
theorem dX3_needNail_5 : decode cX3_needNail 5 = .ok (.aload_n 0, 1) := by decide +kernel
theorem dX3_needNail_6 : decode cX3_needNail 6 = .ok (.getfield 34, 3) := by decide +kernel
theorem dX3_needNail_9 : decode cX3_needNail 9 = .ok (.getfield 55, 3) := by decide +kernel
theorem dX3_needNail_12 : decode cX3_needNail 12 = .ok (.if_icmp .lt 14, 3) := by decide +kernel
theorem dX3_needNail_15 : decode cX3_needNail 15 = .ok (.new 322, 3) := by decide +kernel
theorem dX3_needNail_18 : decode cX3_needNail 18 = .ok (.dup, 1) := by decide +kernel
theorem dX3_needNail_19 : decode cX3_needNail 19 = .ok (.ldc_w 324, 3) := by decide +kernel
theorem dX3_needNail_22 : decode cX3_needNail 22 = .ok (.invokespecial 326, 3) := by decide +kernel
theorem dX3_needNail_25 : decode cX3_needNail 25 = .ok (.athrow, 1) := by decide +kernel
theorem dX3_needNail_26 : decode cX3_needNail 26 = .ok (.return_, 1) := by decide +kernel
theorem dX3_needSpool_0 : decode cX3_needSpool 0 = .ok (.iload_n 0, 1) := by decide +kernel
theorem dX3_needSpool_1 : decode cX3_needSpool 1 = .ok (.ifCond .lt 8, 3) := by decide +kernel
theorem dX3_needSpool_4 : decode cX3_needSpool 4 = .ok (.iload_n 0, 1) := by decide +kernel
theorem dX3_needSpool_5 : decode cX3_needSpool 5 = .ok (.iconst 3, 1) := by decide +kernel
theorem dX3_needSpool_6 : decode cX3_needSpool 6 = .ok (.if_icmp .lt 14, 3) := by decide +kernel
theorem dX3_needSpool_9 : decode cX3_needSpool 9 = .ok (.new 322, 3) := by decide +kernel
theorem dX3_needSpool_12 : decode cX3_needSpool 12 = .ok (.dup, 1) := by decide +kernel
theorem dX3_needSpool_13 : decode cX3_needSpool 13 = .ok (.ldc_w 327, 3) := by decide +kernel
theorem dX3_needSpool_16 : decode cX3_needSpool 16 = .ok (.invokespecial 326, 3) := by decide +kernel
theorem dX3_needSpool_19 : decode cX3_needSpool 19 = .ok (.athrow, 1) := by decide +kernel
theorem dX3_needSpool_20 : decode cX3_needSpool 20 = .ok (.return_, 1) := by decide +kernel
theorem dX3_needSetting_0 : decode cX3_needSetting 0 = .ok (.iload_n 0, 1) := by decide +kernel
theorem dX3_needSetting_1 : decode cX3_needSetting 1 = .ok (.ifCond .lt 8, 3) := by decide +kernel
theorem dX3_needSetting_4 : decode cX3_needSetting 4 = .ok (.iload_n 0, 1) := by decide +kernel
theorem dX3_needSetting_5 : decode cX3_needSetting 5 = .ok (.iconst 3, 1) := by decide +kernel
theorem dX3_needSetting_6 : decode cX3_needSetting 6 = .ok (.if_icmp .lt 14, 3) := by decide +kernel
theorem dX3_needSetting_9 : decode cX3_needSetting 9 = .ok (.new 322, 3) := by decide +kernel
theorem dX3_needSetting_12 : decode cX3_needSetting 12 = .ok (.dup, 1) := by decide +kernel
theorem dX3_needSetting_13 : decode cX3_needSetting 13 = .ok (.ldc_w 329, 3) := by decide +kernel
theorem dX3_needSetting_16 : decode cX3_needSetting 16 = .ok (.invokespecial 326, 3) := by decide +kernel
theorem dX3_needSetting_19 : decode cX3_needSetting 19 = .ok (.athrow, 1) := by decide +kernel
theorem dX3_needSetting_20 : decode cX3_needSetting 20 = .ok (.return_, 1) := by decide +kernel
theorem dX3_needSquare_0 : decode cX3_needSquare 0 = .ok (.iload_n 0, 1) := by decide +kernel
theorem dX3_needSquare_1 : decode cX3_needSquare 1 = .ok (.ifCond .lt 19, 3) := by decide +kernel
theorem dX3_needSquare_4 : decode cX3_needSquare 4 = .ok (.iload_n 0, 1) := by decide +kernel
theorem dX3_needSquare_5 : decode cX3_needSquare 5 = .ok (.bipush 12, 2) := by decide +kernel
theorem dX3_needSquare_7 : decode cX3_needSquare 7 = .ok (.if_icmp .ge 13, 3) := by decide +kernel
theorem dX3_needSquare_10 : decode cX3_needSquare 10 = .ok (.iload_n 1, 1) := by decide +kernel
theorem dX3_needSquare_11 : decode cX3_needSquare 11 = .ok (.ifCond .lt 9, 3) := by decide +kernel
theorem dX3_needSquare_14 : decode cX3_needSquare 14 = .ok (.iload_n 1, 1) := by decide +kernel
theorem dX3_needSquare_15 : decode cX3_needSquare 15 = .ok (.bipush 12, 2) := by decide +kernel
theorem dX3_needSquare_17 : decode cX3_needSquare 17 = .ok (.if_icmp .lt 14, 3) := by decide +kernel
theorem dX3_needSquare_20 : decode cX3_needSquare 20 = .ok (.new 322, 3) := by decide +kernel
theorem dX3_needSquare_23 : decode cX3_needSquare 23 = .ok (.dup, 1) := by decide +kernel
theorem dX3_needSquare_24 : decode cX3_needSquare 24 = .ok (.ldc_w 331, 3) := by decide +kernel
theorem dX3_needSquare_27 : decode cX3_needSquare 27 = .ok (.invokespecial 326, 3) := by decide +kernel
theorem dX3_needSquare_30 : decode cX3_needSquare 30 = .ok (.athrow, 1) := by decide +kernel
theorem dX3_needSquare_31 : decode cX3_needSquare 31 = .ok (.return_, 1) := by decide +kernel
theorem dX3_needRange_0 : decode cX3_needRange 0 = .ok (.iload_n 0, 1) := by decide +kernel
theorem dX3_needRange_1 : decode cX3_needRange 1 = .ok (.iload_n 1, 1) := by decide +kernel
theorem dX3_needRange_2 : decode cX3_needRange 2 = .ok (.if_icmp .lt 8, 3) := by decide +kernel
theorem dX3_needRange_5 : decode cX3_needRange 5 = .ok (.iload_n 0, 1) := by decide +kernel
theorem dX3_needRange_6 : decode cX3_needRange 6 = .ok (.iload_n 2, 1) := by decide +kernel
theorem dX3_needRange_7 : decode cX3_needRange 7 = .ok (.if_icmp .le 13, 3) := by decide +kernel
theorem dX3_needRange_10 : decode cX3_needRange 10 = .ok (.new 45, 3) := by decide +kernel
theorem dX3_needRange_13 : decode cX3_needRange 13 = .ok (.dup, 1) := by decide +kernel
theorem dX3_needRange_14 : decode cX3_needRange 14 = .ok (.ldc 216, 2) := by decide +kernel
theorem dX3_needRange_16 : decode cX3_needRange 16 = .ok (.invokespecial 49, 3) := by decide +kernel
theorem dX3_needRange_19 : decode cX3_needRange 19 = .ok (.athrow, 1) := by decide +kernel
theorem dX3_needRange_20 : decode cX3_needRange 20 = .ok (.return_, 1) := by decide +kernel
theorem dX3_save_0 : decode cX3_save 0 = .ok (.aload_n 0, 1) := by decide +kernel
theorem dX3_save_1 : decode cX3_save 1 = .ok (.getfield 187, 3) := by decide +kernel
theorem dX3_save_4 : decode cX3_save 4 = .ok (.bipush 6, 2) := by decide +kernel
theorem dX3_save_6 : decode cX3_save 6 = .ok (.if_icmp .lt 50, 3) := by decide +kernel
theorem dX3_save_9 : decode cX3_save 9 = .ok (.aload_n 0, 1) := by decide +kernel
theorem dX3_save_10 : decode cX3_save 10 = .ok (.getfield 26, 3) := by decide +kernel
theorem dX3_save_13 : decode cX3_save 13 = .ok (.iconst 0, 1) := by decide +kernel
theorem dX3_save_14 : decode cX3_save 14 = .ok (.aaload, 1) := by decide +kernel
theorem dX3_save_15 : decode cX3_save 15 = .ok (.astore_n 1, 1) := by decide +kernel
theorem dX3_save_16 : decode cX3_save 16 = .ok (.iconst 1, 1) := by decide +kernel
theorem dX3_save_17 : decode cX3_save 17 = .ok (.istore_n 2, 1) := by decide +kernel
theorem dX3_save_18 : decode cX3_save 18 = .ok (.iload_n 2, 1) := by decide +kernel
theorem dX3_save_19 : decode cX3_save 19 = .ok (.bipush 6, 2) := by decide +kernel
theorem dX3_save_21 : decode cX3_save 21 = .ok (.if_icmp .ge 23, 3) := by decide +kernel
theorem dX3_save_24 : decode cX3_save 24 = .ok (.aload_n 0, 1) := by decide +kernel
theorem dX3_save_25 : decode cX3_save 25 = .ok (.getfield 26, 3) := by decide +kernel
theorem dX3_save_28 : decode cX3_save 28 = .ok (.iload_n 2, 1) := by decide +kernel
theorem dX3_save_29 : decode cX3_save 29 = .ok (.iconst 1, 1) := by decide +kernel
theorem dX3_save_30 : decode cX3_save 30 = .ok (.isub, 1) := by decide +kernel
theorem dX3_save_31 : decode cX3_save 31 = .ok (.aload_n 0, 1) := by decide +kernel
theorem dX3_save_32 : decode cX3_save 32 = .ok (.getfield 26, 3) := by decide +kernel
theorem dX3_save_35 : decode cX3_save 35 = .ok (.iload_n 2, 1) := by decide +kernel
theorem dX3_save_36 : decode cX3_save 36 = .ok (.aaload, 1) := by decide +kernel
theorem dX3_save_37 : decode cX3_save 37 = .ok (.aastore, 1) := by decide +kernel
theorem dX3_save_38 : decode cX3_save 38 = .ok (.iinc 2 1, 3) := by decide +kernel
theorem dX3_save_41 : decode cX3_save 41 = .ok (.goto (-23), 3) := by decide +kernel
theorem dX3_save_44 : decode cX3_save 44 = .ok (.aload_n 0, 1) := by decide +kernel
theorem dX3_save_45 : decode cX3_save 45 = .ok (.getfield 26, 3) := by decide +kernel
theorem dX3_save_48 : decode cX3_save 48 = .ok (.iconst 5, 1) := by decide +kernel
theorem dX3_save_49 : decode cX3_save 49 = .ok (.aload_n 1, 1) := by decide +kernel
theorem dX3_save_50 : decode cX3_save 50 = .ok (.aastore, 1) := by decide +kernel
theorem dX3_save_51 : decode cX3_save 51 = .ok (.aload_n 0, 1) := by decide +kernel
theorem dX3_save_52 : decode cX3_save 52 = .ok (.iconst 5, 1) := by decide +kernel
theorem dX3_save_53 : decode cX3_save 53 = .ok (.putfield 187, 3) := by decide +kernel
theorem dX3_save_56 : decode cX3_save 56 = .ok (.aload_n 0, 1) := by decide +kernel
theorem dX3_save_57 : decode cX3_save 57 = .ok (.aload_n 0, 1) := by decide +kernel
theorem dX3_save_58 : decode cX3_save 58 = .ok (.getfield 26, 3) := by decide +kernel
theorem dX3_save_61 : decode cX3_save 61 = .ok (.aload_n 0, 1) := by decide +kernel
theorem dX3_save_62 : decode cX3_save 62 = .ok (.getfield 187, 3) := by decide +kernel
theorem dX3_save_65 : decode cX3_save 65 = .ok (.invokevirtual 177, 3) := by decide +kernel
theorem dX3_save_68 : decode cX3_save 68 = .ok (.aload_n 0, 1) := by decide +kernel
theorem dX3_save_69 : decode cX3_save 69 = .ok (.dup, 1) := by decide +kernel
theorem dX3_save_70 : decode cX3_save 70 = .ok (.getfield 187, 3) := by decide +kernel
theorem dX3_save_73 : decode cX3_save 73 = .ok (.iconst 1, 1) := by decide +kernel
theorem dX3_save_74 : decode cX3_save 74 = .ok (.iadd, 1) := by decide +kernel
theorem dX3_save_75 : decode cX3_save 75 = .ok (.putfield 187, 3) := by decide +kernel
theorem dX3_save_78 : decode cX3_save 78 = .ok (.return_, 1) := by decide +kernel
theorem dX3_copyTo_0 : decode cX3_copyTo 0 = .ok (.aload_n 1, 1) := by decide +kernel
theorem dX3_copyTo_1 : decode cX3_copyTo 1 = .ok (.iload_n 2, 1) := by decide +kernel
theorem dX3_copyTo_2 : decode cX3_copyTo 2 = .ok (.aaload, 1) := by decide +kernel
theorem dX3_copyTo_3 : decode cX3_copyTo 3 = .ok (.astore_n 3, 1) := by decide +kernel
theorem dX3_copyTo_4 : decode cX3_copyTo 4 = .ok (.aload_n 3, 1) := by decide +kernel
theorem dX3_copyTo_5 : decode cX3_copyTo 5 = .ok (.ifnonnull 22, 3) := by decide +kernel
theorem dX3_copyTo_8 : decode cX3_copyTo 8 = .ok (.new 20, 3) := by decide +kernel
theorem dX3_copyTo_11 : decode cX3_copyTo 11 = .ok (.dup, 1) := by decide +kernel
theorem dX3_copyTo_12 : decode cX3_copyTo 12 = .ok (.aload_n 0, 1) := by decide +kernel
theorem dX3_copyTo_13 : decode cX3_copyTo 13 = .ok (.getfield 34, 3) := by decide +kernel
theorem dX3_copyTo_16 : decode cX3_copyTo 16 = .ok (.getfield 333, 3) := by decide +kernel
theorem dX3_copyTo_19 : decode cX3_copyTo 19 = .ok (.invokespecial 31, 3) := by decide +kernel
theorem dX3_copyTo_22 : decode cX3_copyTo 22 = .ok (.astore_n 3, 1) := by decide +kernel
theorem dX3_copyTo_23 : decode cX3_copyTo 23 = .ok (.aload_n 1, 1) := by decide +kernel
theorem dX3_copyTo_24 : decode cX3_copyTo 24 = .ok (.iload_n 2, 1) := by decide +kernel
theorem dX3_copyTo_25 : decode cX3_copyTo 25 = .ok (.aload_n 3, 1) := by decide +kernel
theorem dX3_copyTo_26 : decode cX3_copyTo 26 = .ok (.aastore, 1) := by decide +kernel
theorem dX3_copyTo_27 : decode cX3_copyTo 27 = .ok (.aload_n 3, 1) := by decide +kernel
theorem dX3_copyTo_28 : decode cX3_copyTo 28 = .ok (.aload_n 0, 1) := by decide +kernel
theorem dX3_copyTo_29 : decode cX3_copyTo 29 = .ok (.getfield 34, 3) := by decide +kernel
theorem dX3_copyTo_32 : decode cX3_copyTo 32 = .ok (.invokevirtual 183, 3) := by decide +kernel
theorem dX3_copyTo_35 : decode cX3_copyTo 35 = .ok (.return_, 1) := by decide +kernel
end
section
theorem dX4_init_0 : decode cX4_init 0 = .ok (.aload_n 0, 1) := by decide +kernel
theorem dX4_init_1 : decode cX4_init 1 = .ok (.invokespecial 1, 3) := by decide +kernel
theorem dX4_init_4 : decode cX4_init 4 = .ok (.aload_n 0, 1) := by decide +kernel
theorem dX4_init_5 : decode cX4_init 5 = .ok (.sipush 904, 3) := by decide +kernel
theorem dX4_init_8 : decode cX4_init 8 = .ok (.newarray .int, 2) := by decide +kernel
theorem dX4_init_10 : decode cX4_init 10 = .ok (.putfield 7, 3) := by decide +kernel
theorem dX4_init_13 : decode cX4_init 13 = .ok (.aload_n 0, 1) := by decide +kernel
theorem dX4_init_14 : decode cX4_init 14 = .ok (.sipush 5424, 3) := by decide +kernel
theorem dX4_init_17 : decode cX4_init 17 = .ok (.newarray .int, 2) := by decide +kernel
theorem dX4_init_19 : decode cX4_init 19 = .ok (.putfield 13, 3) := by decide +kernel
theorem dX4_init_22 : decode cX4_init 22 = .ok (.aload_n 0, 1) := by decide +kernel
theorem dX4_init_23 : decode cX4_init 23 = .ok (.sipush 1808, 3) := by decide +kernel
theorem dX4_init_26 : decode cX4_init 26 = .ok (.newarray .int, 2) := by decide +kernel
theorem dX4_init_28 : decode cX4_init 28 = .ok (.putfield 16, 3) := by decide +kernel
theorem dX4_init_31 : decode cX4_init 31 = .ok (.aload_n 0, 1) := by decide +kernel
theorem dX4_init_32 : decode cX4_init 32 = .ok (.iconst 2, 1) := by decide +kernel
theorem dX4_init_33 : decode cX4_init 33 = .ok (.newarray .boolean, 2) := by decide +kernel
theorem dX4_init_35 : decode cX4_init 35 = .ok (.putfield 19, 3) := by decide +kernel
theorem dX4_init_38 : decode cX4_init 38 = .ok (.aload_n 0, 1) := by decide +kernel
theorem dX4_init_39 : decode cX4_init 39 = .ok (.bipush 60, 2) := by decide +kernel
theorem dX4_init_41 : decode cX4_init 41 = .ok (.newarray .int, 2) := by decide +kernel
theorem dX4_init_43 : decode cX4_init 43 = .ok (.putfield 23, 3) := by decide +kernel
theorem dX4_init_46 : decode cX4_init 46 = .ok (.aload_n 0, 1) := by decide +kernel
theorem dX4_init_47 : decode cX4_init 47 = .ok (.sipush 144, 3) := by decide +kernel
theorem dX4_init_50 : decode cX4_init 50 = .ok (.newarray .int, 2) := by decide +kernel
theorem dX4_init_52 : decode cX4_init 52 = .ok (.putfield 26, 3) := by decide +kernel
theorem dX4_init_55 : decode cX4_init 55 = .ok (.aload_n 0, 1) := by decide +kernel
theorem dX4_init_56 : decode cX4_init 56 = .ok (.sipush 144, 3) := by decide +kernel
theorem dX4_init_59 : decode cX4_init 59 = .ok (.newarray .int, 2) := by decide +kernel
theorem dX4_init_61 : decode cX4_init 61 = .ok (.putfield 29, 3) := by decide +kernel
theorem dX4_init_64 : decode cX4_init 64 = .ok (.aload_n 0, 1) := by decide +kernel
theorem dX4_init_65 : decode cX4_init 65 = .ok (.sipush 144, 3) := by decide +kernel
theorem dX4_init_68 : decode cX4_init 68 = .ok (.newarray .int, 2) := by decide +kernel
theorem dX4_init_70 : decode cX4_init 70 = .ok (.putfield 32, 3) := by decide +kernel
theorem dX4_init_73 : decode cX4_init 73 = .ok (.aload_n 0, 1) := by decide +kernel
theorem dX4_init_74 : decode cX4_init 74 = .ok (.iconst 0, 1) := by decide +kernel
theorem dX4_init_75 : decode cX4_init 75 = .ok (.putfield 35, 3) := by decide +kernel
theorem dX4_init_78 : decode cX4_init 78 = .ok (.aload_n 0, 1) := by decide +kernel
theorem dX4_init_79 : decode cX4_init 79 = .ok (.getfield 7, 3) := by decide +kernel
theorem dX4_init_82 : decode cX4_init 82 = .ok (.iconst 0, 1) := by decide +kernel
theorem dX4_init_83 : decode cX4_init 83 = .ok (.bipush 12, 2) := by decide +kernel
theorem dX4_init_85 : decode cX4_init 85 = .ok (.iastore, 1) := by decide +kernel
theorem dX4_init_86 : decode cX4_init 86 = .ok (.aload_n 0, 1) := by decide +kernel
theorem dX4_init_87 : decode cX4_init 87 = .ok (.getfield 7, 3) := by decide +kernel
theorem dX4_init_90 : decode cX4_init 90 = .ok (.bipush 6, 2) := by decide +kernel
theorem dX4_init_92 : decode cX4_init 92 = .ok (.iconst 1, 1) := by decide +kernel
theorem dX4_init_93 : decode cX4_init 93 = .ok (.iastore, 1) := by decide +kernel
theorem dX4_init_94 : decode cX4_init 94 = .ok (.aload_n 0, 1) := by decide +kernel
theorem dX4_init_95 : decode cX4_init 95 = .ok (.getfield 7, 3) := by decide +kernel
theorem dX4_init_98 : decode cX4_init 98 = .ok (.bipush 7, 2) := by decide +kernel
theorem dX4_init_100 : decode cX4_init 100 = .ok (.iconst 1, 1) := by decide +kernel
theorem dX4_init_101 : decode cX4_init 101 = .ok (.iastore, 1) := by decide +kernel
theorem dX4_init_102 : decode cX4_init 102 = .ok (.aload_n 0, 1) := by decide +kernel
theorem dX4_init_103 : decode cX4_init 103 = .ok (.getfield 7, 3) := by decide +kernel
theorem dX4_init_106 : decode cX4_init 106 = .ok (.bipush 8, 2) := by decide +kernel
theorem dX4_init_108 : decode cX4_init 108 = .ok (.iconst 2, 1) := by decide +kernel
theorem dX4_init_109 : decode cX4_init 109 = .ok (.iastore, 1) := by decide +kernel
theorem dX4_init_110 : decode cX4_init 110 = .ok (.iconst 0, 1) := by decide +kernel
theorem dX4_init_111 : decode cX4_init 111 = .ok (.istore_n 1, 1) := by decide +kernel
theorem dX4_init_112 : decode cX4_init 112 = .ok (.iload_n 1, 1) := by decide +kernel
theorem dX4_init_113 : decode cX4_init 113 = .ok (.iconst 3, 1) := by decide +kernel
theorem dX4_init_114 : decode cX4_init 114 = .ok (.if_icmp .ge 39, 3) := by decide +kernel
theorem dX4_init_117 : decode cX4_init 117 = .ok (.aload_n 0, 1) := by decide +kernel
theorem dX4_init_118 : decode cX4_init 118 = .ok (.getfield 7, 3) := by decide +kernel
theorem dX4_init_121 : decode cX4_init 121 = .ok (.bipush 9, 2) := by decide +kernel
theorem dX4_init_123 : decode cX4_init 123 = .ok (.iconst 2, 1) := by decide +kernel
theorem dX4_init_124 : decode cX4_init 124 = .ok (.iload_n 1, 1) := by decide +kernel
theorem dX4_init_125 : decode cX4_init 125 = .ok (.imul, 1) := by decide +kernel
theorem dX4_init_126 : decode cX4_init 126 = .ok (.iadd, 1) := by decide +kernel
theorem dX4_init_127 : decode cX4_init 127 = .ok (.iload_n 1, 1) := by decide +kernel
theorem dX4_init_128 : decode cX4_init 128 = .ok (.iconst 1, 1) := by decide +kernel
theorem dX4_init_129 : decode cX4_init 129 = .ok (.iadd, 1) := by decide +kernel
theorem dX4_init_130 : decode cX4_init 130 = .ok (.iastore, 1) := by decide +kernel
theorem dX4_init_131 : decode cX4_init 131 = .ok (.aload_n 0, 1) := by decide +kernel
theorem dX4_init_132 : decode cX4_init 132 = .ok (.getfield 7, 3) := by decide +kernel
theorem dX4_init_135 : decode cX4_init 135 = .ok (.bipush 9, 2) := by decide +kernel
theorem dX4_init_137 : decode cX4_init 137 = .ok (.iconst 2, 1) := by decide +kernel
theorem dX4_init_138 : decode cX4_init 138 = .ok (.iload_n 1, 1) := by decide +kernel
theorem dX4_init_139 : decode cX4_init 139 = .ok (.imul, 1) := by decide +kernel
theorem dX4_init_140 : decode cX4_init 140 = .ok (.iadd, 1) := by decide +kernel
theorem dX4_init_141 : decode cX4_init 141 = .ok (.iconst 1, 1) := by decide +kernel
theorem dX4_init_142 : decode cX4_init 142 = .ok (.iadd, 1) := by decide +kernel
theorem dX4_init_143 : decode cX4_init 143 = .ok (.sipush 2000, 3) := by decide +kernel
theorem dX4_init_146 : decode cX4_init 146 = .ok (.iastore, 1) := by decide +kernel
theorem dX4_init_147 : decode cX4_init 147 = .ok (.iinc 1 1, 3) := by decide +kernel
theorem dX4_init_150 : decode cX4_init 150 = .ok (.goto (-38), 3) := by decide +kernel
theorem dX4_init_153 : decode cX4_init 153 = .ok (.return_, 1) := by decide +kernel
theorem dX4_thrown_0 : decode cX4_thrown 0 = .ok (.aload_n 0, 1) := by decide +kernel
theorem dX4_thrown_1 : decode cX4_thrown 1 = .ok (.getfield 35, 3) := by decide +kernel
theorem dX4_thrown_4 : decode cX4_thrown 4 = .ok (.ireturn, 1) := by decide +kernel
theorem dX4_in_0 : decode cX4_in 0 = .ok (.iload_n 0, 1) := by decide +kernel
theorem dX4_in_1 : decode cX4_in 1 = .ok (.iload_n 1, 1) := by decide +kernel
theorem dX4_in_2 : decode cX4_in 2 = .ok (.if_icmp .lt 12, 3) := by decide +kernel
theorem dX4_in_5 : decode cX4_in 5 = .ok (.iload_n 0, 1) := by decide +kernel
theorem dX4_in_6 : decode cX4_in 6 = .ok (.iload_n 2, 1) := by decide +kernel
theorem dX4_in_7 : decode cX4_in 7 = .ok (.if_icmp .gt 7, 3) := by decide +kernel
theorem dX4_in_10 : decode cX4_in 10 = .ok (.iconst 1, 1) := by decide +kernel
theorem dX4_in_11 : decode cX4_in 11 = .ok (.goto 4, 3) := by decide +kernel
theorem dX4_in_14 : decode cX4_in 14 = .ok (.iconst 0, 1) := by decide +kernel
theorem dX4_in_15 : decode cX4_in 15 = .ok (.ireturn, 1) := by decide +kernel
theorem dX4_fails_0 : decode cX4_fails 0 = .ok (.aload_n 0, 1) := by decide +kernel
theorem dX4_fails_1 : decode cX4_fails 1 = .ok (.iload_n 1, 1) := by decide +kernel
theorem dX4_fails_2 : decode cX4_fails 2 = .ok (.putfield 35, 3) := by decide +kernel
theorem dX4_fails_5 : decode cX4_fails 5 = .ok (.iconst 0, 1) := by decide +kernel
theorem dX4_fails_6 : decode cX4_fails 6 = .ok (.ireturn, 1) := by decide +kernel
theorem dX4_abs_0 : decode cX4_abs 0 = .ok (.iload_n 0, 1) := by decide +kernel
theorem dX4_abs_1 : decode cX4_abs 1 = .ok (.ifCond .ge 8, 3) := by decide +kernel
theorem dX4_abs_4 : decode cX4_abs 4 = .ok (.iload_n 0, 1) := by decide +kernel
theorem dX4_abs_5 : decode cX4_abs 5 = .ok (.ineg, 1) := by decide +kernel
theorem dX4_abs_6 : decode cX4_abs 6 = .ok (.goto 4, 3) := by decide +kernel
theorem dX4_abs_9 : decode cX4_abs 9 = .ok (.iload_n 0, 1) := by decide +kernel
theorem dX4_abs_10 : decode cX4_abs 10 = .ok (.ireturn, 1) := by decide +kernel
theorem dX4_saves_0 : decode cX4_saves 0 = .ok (.aload_n 0, 1) := by decide +kernel
theorem dX4_saves_1 : decode cX4_saves 1 = .ok (.getfield 39, 3) := by decide +kernel
theorem dX4_saves_4 : decode cX4_saves 4 = .ok (.bipush 6, 2) := by decide +kernel
theorem dX4_saves_6 : decode cX4_saves 6 = .ok (.if_icmp .ne 44, 3) := by decide +kernel
theorem dX4_saves_9 : decode cX4_saves 9 = .ok (.iconst 0, 1) := by decide +kernel
theorem dX4_saves_10 : decode cX4_saves 10 = .ok (.istore_n 1, 1) := by decide +kernel
theorem dX4_saves_11 : decode cX4_saves 11 = .ok (.iload_n 1, 1) := by decide +kernel
theorem dX4_saves_12 : decode cX4_saves 12 = .ok (.sipush 4520, 3) := by decide +kernel
theorem dX4_saves_15 : decode cX4_saves 15 = .ok (.if_icmp .ge 25, 3) := by decide +kernel
theorem dX4_saves_18 : decode cX4_saves 18 = .ok (.aload_n 0, 1) := by decide +kernel
theorem dX4_saves_19 : decode cX4_saves 19 = .ok (.getfield 13, 3) := by decide +kernel
theorem dX4_saves_22 : decode cX4_saves 22 = .ok (.iload_n 1, 1) := by decide +kernel
theorem dX4_saves_23 : decode cX4_saves 23 = .ok (.aload_n 0, 1) := by decide +kernel
theorem dX4_saves_24 : decode cX4_saves 24 = .ok (.getfield 13, 3) := by decide +kernel
theorem dX4_saves_27 : decode cX4_saves 27 = .ok (.iload_n 1, 1) := by decide +kernel
theorem dX4_saves_28 : decode cX4_saves 28 = .ok (.sipush 904, 3) := by decide +kernel
theorem dX4_saves_31 : decode cX4_saves 31 = .ok (.iadd, 1) := by decide +kernel
theorem dX4_saves_32 : decode cX4_saves 32 = .ok (.iaload, 1) := by decide +kernel
theorem dX4_saves_33 : decode cX4_saves 33 = .ok (.iastore, 1) := by decide +kernel
theorem dX4_saves_34 : decode cX4_saves 34 = .ok (.iinc 1 1, 3) := by decide +kernel
theorem dX4_saves_37 : decode cX4_saves 37 = .ok (.goto (-26), 3) := by decide +kernel
theorem dX4_saves_40 : decode cX4_saves 40 = .ok (.aload_n 0, 1) := by decide +kernel
theorem dX4_saves_41 : decode cX4_saves 41 = .ok (.dup, 1) := by decide +kernel
theorem dX4_saves_42 : decode cX4_saves 42 = .ok (.getfield 39, 3) := by decide +kernel
theorem dX4_saves_45 : decode cX4_saves 45 = .ok (.iconst 1, 1) := by decide +kernel
theorem dX4_saves_46 : decode cX4_saves 46 = .ok (.isub, 1) := by decide +kernel
theorem dX4_saves_47 : decode cX4_saves 47 = .ok (.putfield 39, 3) := by decide +kernel
theorem dX4_saves_50 : decode cX4_saves 50 = .ok (.iconst 0, 1) := by decide +kernel
theorem dX4_saves_51 : decode cX4_saves 51 = .ok (.istore_n 1, 1) := by decide +kernel
theorem dX4_saves_52 : decode cX4_saves 52 = .ok (.iload_n 1, 1) := by decide +kernel
theorem dX4_saves_53 : decode cX4_saves 53 = .ok (.sipush 904, 3) := by decide +kernel
theorem dX4_saves_56 : decode cX4_saves 56 = .ok (.if_icmp .ge 30, 3) := by decide +kernel
theorem dX4_saves_59 : decode cX4_saves 59 = .ok (.aload_n 0, 1) := by decide +kernel
theorem dX4_saves_60 : decode cX4_saves 60 = .ok (.getfield 13, 3) := by decide +kernel
theorem dX4_saves_63 : decode cX4_saves 63 = .ok (.sipush 904, 3) := by decide +kernel
theorem dX4_saves_66 : decode cX4_saves 66 = .ok (.aload_n 0, 1) := by decide +kernel
theorem dX4_saves_67 : decode cX4_saves 67 = .ok (.getfield 39, 3) := by decide +kernel
theorem dX4_saves_70 : decode cX4_saves 70 = .ok (.imul, 1) := by decide +kernel
theorem dX4_saves_71 : decode cX4_saves 71 = .ok (.iload_n 1, 1) := by decide +kernel
theorem dX4_saves_72 : decode cX4_saves 72 = .ok (.iadd, 1) := by decide +kernel
theorem dX4_saves_73 : decode cX4_saves 73 = .ok (.aload_n 0, 1) := by decide +kernel
theorem dX4_saves_74 : decode cX4_saves 74 = .ok (.getfield 7, 3) := by decide +kernel
theorem dX4_saves_77 : decode cX4_saves 77 = .ok (.iload_n 1, 1) := by decide +kernel
theorem dX4_saves_78 : decode cX4_saves 78 = .ok (.iaload, 1) := by decide +kernel
theorem dX4_saves_79 : decode cX4_saves 79 = .ok (.iastore, 1) := by decide +kernel
theorem dX4_saves_80 : decode cX4_saves 80 = .ok (.iinc 1 1, 3) := by decide +kernel
theorem dX4_saves_83 : decode cX4_saves 83 = .ok (.goto (-31), 3) := by decide +kernel
theorem dX4_saves_86 : decode cX4_saves 86 = .ok (.aload_n 0, 1) := by decide +kernel
theorem dX4_saves_87 : decode cX4_saves 87 = .ok (.dup, 1) := by decide +kernel
theorem dX4_saves_88 : decode cX4_saves 88 = .ok (.getfield 39, 3) := by decide +kernel
theorem dX4_saves_91 : decode cX4_saves 91 = .ok (.iconst 1, 1) := by decide +kernel
theorem dX4_saves_92 : decode cX4_saves 92 = .ok (.iadd, 1) := by decide +kernel
theorem dX4_saves_93 : decode cX4_saves 93 = .ok (.putfield 39, 3) := by decide +kernel
theorem dX4_saves_96 : decode cX4_saves 96 = .ok (.return_, 1) := by decide +kernel
theorem dX4_isNail_0 : decode cX4_isNail 0 = .ok (.iload_n 1, 1) := by decide +kernel
theorem dX4_isNail_1 : decode cX4_isNail 1 = .ok (.iconst 0, 1) := by decide +kernel
theorem dX4_isNail_2 : decode cX4_isNail 2 = .ok (.aload_n 0, 1) := by decide +kernel
theorem dX4_isNail_3 : decode cX4_isNail 3 = .ok (.getfield 7, 3) := by decide +kernel
theorem dX4_isNail_6 : decode cX4_isNail 6 = .ok (.iconst 0, 1) := by decide +kernel
theorem dX4_isNail_7 : decode cX4_isNail 7 = .ok (.iaload, 1) := by decide +kernel
theorem dX4_isNail_8 : decode cX4_isNail 8 = .ok (.iconst 1, 1) := by decide +kernel
theorem dX4_isNail_9 : decode cX4_isNail 9 = .ok (.isub, 1) := by decide +kernel
theorem dX4_isNail_10 : decode cX4_isNail 10 = .ok (.invokestatic 42, 3) := by decide +kernel
theorem dX4_isNail_13 : decode cX4_isNail 13 = .ok (.ireturn, 1) := by decide +kernel
theorem dX4_isSpool_0 : decode cX4_isSpool 0 = .ok (.iload_n 0, 1) := by decide +kernel
theorem dX4_isSpool_1 : decode cX4_isSpool 1 = .ok (.iconst 0, 1) := by decide +kernel
theorem dX4_isSpool_2 : decode cX4_isSpool 2 = .ok (.iconst 2, 1) := by decide +kernel
theorem dX4_isSpool_3 : decode cX4_isSpool 3 = .ok (.invokestatic 42, 3) := by decide +kernel
theorem dX4_isSpool_6 : decode cX4_isSpool 6 = .ok (.ireturn, 1) := by decide +kernel
theorem dX4_isSquare_0 : decode cX4_isSquare 0 = .ok (.iload_n 0, 1) := by decide +kernel
theorem dX4_isSquare_1 : decode cX4_isSquare 1 = .ok (.iconst 0, 1) := by decide +kernel
theorem dX4_isSquare_2 : decode cX4_isSquare 2 = .ok (.bipush 11, 2) := by decide +kernel
theorem dX4_isSquare_4 : decode cX4_isSquare 4 = .ok (.invokestatic 42, 3) := by decide +kernel
theorem dX4_isSquare_7 : decode cX4_isSquare 7 = .ok (.ifCond .eq 17, 3) := by decide +kernel
theorem dX4_isSquare_10 : decode cX4_isSquare 10 = .ok (.iload_n 1, 1) := by decide +kernel
theorem dX4_isSquare_11 : decode cX4_isSquare 11 = .ok (.iconst 0, 1) := by decide +kernel
theorem dX4_isSquare_12 : decode cX4_isSquare 12 = .ok (.bipush 11, 2) := by decide +kernel
theorem dX4_isSquare_14 : decode cX4_isSquare 14 = .ok (.invokestatic 42, 3) := by decide +kernel
theorem dX4_isSquare_17 : decode cX4_isSquare 17 = .ok (.ifCond .eq 7, 3) := by decide +kernel
theorem dX4_isSquare_20 : decode cX4_isSquare 20 = .ok (.iconst 1, 1) := by decide +kernel
theorem dX4_isSquare_21 : decode cX4_isSquare 21 = .ok (.goto 4, 3) := by decide +kernel
theorem dX4_isSquare_24 : decode cX4_isSquare 24 = .ok (.iconst 0, 1) := by decide +kernel
theorem dX4_isSquare_25 : decode cX4_isSquare 25 = .ok (.ireturn, 1) := by decide +kernel
theorem dX4_quarter_0 : decode cX4_quarter 0 = .ok (.iload_n 0, 1) := by decide +kernel
theorem dX4_quarter_1 : decode cX4_quarter 1 = .ok (.tableswitch 57 0 5 #[39, 42, 45, 48, 51, 54], 39) := by decide +kernel
theorem dX4_quarter_40 : decode cX4_quarter 40 = .ok (.bipush 60, 2) := by decide +kernel
theorem dX4_quarter_42 : decode cX4_quarter 42 = .ok (.ireturn, 1) := by decide +kernel
theorem dX4_quarter_43 : decode cX4_quarter 43 = .ok (.bipush 58, 2) := by decide +kernel
theorem dX4_quarter_45 : decode cX4_quarter 45 = .ok (.ireturn, 1) := by decide +kernel
theorem dX4_quarter_46 : decode cX4_quarter 46 = .ok (.bipush 52, 2) := by decide +kernel
theorem dX4_quarter_48 : decode cX4_quarter 48 = .ok (.ireturn, 1) := by decide +kernel
theorem dX4_quarter_49 : decode cX4_quarter 49 = .ok (.bipush 42, 2) := by decide +kernel
theorem dX4_quarter_51 : decode cX4_quarter 51 = .ok (.ireturn, 1) := by decide +kernel
theorem dX4_quarter_52 : decode cX4_quarter 52 = .ok (.bipush 30, 2) := by decide +kernel
theorem dX4_quarter_54 : decode cX4_quarter 54 = .ok (.ireturn, 1) := by decide +kernel
theorem dX4_quarter_55 : decode cX4_quarter 55 = .ok (.bipush 16, 2) := by decide +kernel
theorem dX4_quarter_57 : decode cX4_quarter 57 = .ok (.ireturn, 1) := by decide +kernel
theorem dX4_quarter_58 : decode cX4_quarter 58 = .ok (.iconst 0, 1) := by decide +kernel
theorem dX4_quarter_59 : decode cX4_quarter 59 = .ok (.ireturn, 1) := by decide +kernel
theorem dX4_ring_0 : decode cX4_ring 0 = .ok (.iload_n 0, 1) := by decide +kernel
theorem dX4_ring_1 : decode cX4_ring 1 = .ok (.bipush 24, 2) := by decide +kernel
theorem dX4_ring_3 : decode cX4_ring 3 = .ok (.irem, 1) := by decide +kernel
theorem dX4_ring_4 : decode cX4_ring 4 = .ok (.istore_n 1, 1) := by decide +kernel
theorem dX4_ring_5 : decode cX4_ring 5 = .ok (.iload_n 1, 1) := by decide +kernel
theorem dX4_ring_6 : decode cX4_ring 6 = .ok (.bipush 12, 2) := by decide +kernel
theorem dX4_ring_8 : decode cX4_ring 8 = .ok (.if_icmp .le 10, 3) := by decide +kernel
theorem dX4_ring_11 : decode cX4_ring 11 = .ok (.bipush 24, 2) := by decide +kernel
theorem dX4_ring_13 : decode cX4_ring 13 = .ok (.iload_n 1, 1) := by decide +kernel
theorem dX4_ring_14 : decode cX4_ring 14 = .ok (.isub, 1) := by decide +kernel
theorem dX4_ring_15 : decode cX4_ring 15 = .ok (.goto 4, 3) := by decide +kernel
theorem dX4_ring_18 : decode cX4_ring 18 = .ok (.iload_n 1, 1) := by decide +kernel
theorem dX4_ring_19 : decode cX4_ring 19 = .ok (.istore_n 2, 1) := by decide +kernel
theorem dX4_ring_20 : decode cX4_ring 20 = .ok (.iload_n 2, 1) := by decide +kernel
theorem dX4_ring_21 : decode cX4_ring 21 = .ok (.bipush 6, 2) := by decide +kernel
theorem dX4_ring_23 : decode cX4_ring 23 = .ok (.if_icmp .gt 10, 3) := by decide +kernel
theorem dX4_ring_26 : decode cX4_ring 26 = .ok (.iload_n 2, 1) := by decide +kernel
theorem dX4_ring_27 : decode cX4_ring 27 = .ok (.invokestatic 46, 3) := by decide +kernel
theorem dX4_ring_30 : decode cX4_ring 30 = .ok (.goto 11, 3) := by decide +kernel
theorem dX4_ring_33 : decode cX4_ring 33 = .ok (.bipush 12, 2) := by decide +kernel
theorem dX4_ring_35 : decode cX4_ring 35 = .ok (.iload_n 2, 1) := by decide +kernel
theorem dX4_ring_36 : decode cX4_ring 36 = .ok (.isub, 1) := by decide +kernel
theorem dX4_ring_37 : decode cX4_ring 37 = .ok (.invokestatic 46, 3) := by decide +kernel
theorem dX4_ring_40 : decode cX4_ring 40 = .ok (.ineg, 1) := by decide +kernel
theorem dX4_ring_41 : decode cX4_ring 41 = .ok (.ireturn, 1) := by decide +kernel
theorem dX4_x_0 : decode cX4_x 0 = .ok (.bipush 60, 2) := by decide +kernel
theorem dX4_x_2 : decode cX4_x 2 = .ok (.iload_n 1, 1) := by decide +kernel
theorem dX4_x_3 : decode cX4_x 3 = .ok (.bipush 24, 2) := by decide +kernel
theorem dX4_x_5 : decode cX4_x 5 = .ok (.imul, 1) := by decide +kernel
theorem dX4_x_6 : decode cX4_x 6 = .ok (.aload_n 0, 1) := by decide +kernel
theorem dX4_x_7 : decode cX4_x 7 = .ok (.getfield 7, 3) := by decide +kernel
theorem dX4_x_10 : decode cX4_x 10 = .ok (.iconst 0, 1) := by decide +kernel
theorem dX4_x_11 : decode cX4_x 11 = .ok (.iaload, 1) := by decide +kernel
theorem dX4_x_12 : decode cX4_x 12 = .ok (.idiv, 1) := by decide +kernel
theorem dX4_x_13 : decode cX4_x 13 = .ok (.invokestatic 50, 3) := by decide +kernel
theorem dX4_x_16 : decode cX4_x 16 = .ok (.iadd, 1) := by decide +kernel
theorem dX4_x_17 : decode cX4_x 17 = .ok (.ireturn, 1) := by decide +kernel
theorem dX4_y_0 : decode cX4_y 0 = .ok (.bipush 60, 2) := by decide +kernel
theorem dX4_y_2 : decode cX4_y 2 = .ok (.iload_n 1, 1) := by decide +kernel
theorem dX4_y_3 : decode cX4_y 3 = .ok (.bipush 24, 2) := by decide +kernel
theorem dX4_y_5 : decode cX4_y 5 = .ok (.imul, 1) := by decide +kernel
theorem dX4_y_6 : decode cX4_y 6 = .ok (.aload_n 0, 1) := by decide +kernel
theorem dX4_y_7 : decode cX4_y 7 = .ok (.getfield 7, 3) := by decide +kernel
theorem dX4_y_10 : decode cX4_y 10 = .ok (.iconst 0, 1) := by decide +kernel
theorem dX4_y_11 : decode cX4_y 11 = .ok (.iaload, 1) := by decide +kernel
theorem dX4_y_12 : decode cX4_y 12 = .ok (.idiv, 1) := by decide +kernel
theorem dX4_y_13 : decode cX4_y 13 = .ok (.bipush 18, 2) := by decide +kernel
theorem dX4_y_15 : decode cX4_y 15 = .ok (.iadd, 1) := by decide +kernel
theorem dX4_y_16 : decode cX4_y 16 = .ok (.invokestatic 50, 3) := by decide +kernel
theorem dX4_y_19 : decode cX4_y 19 = .ok (.iadd, 1) := by decide +kernel
theorem dX4_y_20 : decode cX4_y 20 = .ok (.ireturn, 1) := by decide +kernel
theorem dX4_root_0 : decode cX4_root 0 = .ok (.iconst 0, 1) := by decide +kernel
theorem dX4_root_1 : decode cX4_root 1 = .ok (.istore_n 1, 1) := by decide +kernel
theorem dX4_root_2 : decode cX4_root 2 = .ok (.iload_n 1, 1) := by decide +kernel
theorem dX4_root_3 : decode cX4_root 3 = .ok (.iconst 1, 1) := by decide +kernel
theorem dX4_root_4 : decode cX4_root 4 = .ok (.iadd, 1) := by decide +kernel
theorem dX4_root_5 : decode cX4_root 5 = .ok (.iload_n 1, 1) := by decide +kernel
theorem dX4_root_6 : decode cX4_root 6 = .ok (.iconst 1, 1) := by decide +kernel
theorem dX4_root_7 : decode cX4_root 7 = .ok (.iadd, 1) := by decide +kernel
theorem dX4_root_8 : decode cX4_root 8 = .ok (.imul, 1) := by decide +kernel
theorem dX4_root_9 : decode cX4_root 9 = .ok (.iload_n 0, 1) := by decide +kernel
theorem dX4_root_10 : decode cX4_root 10 = .ok (.if_icmp .gt 9, 3) := by decide +kernel
theorem dX4_root_13 : decode cX4_root 13 = .ok (.iinc 1 1, 3) := by decide +kernel
theorem dX4_root_16 : decode cX4_root 16 = .ok (.goto (-14), 3) := by decide +kernel
theorem dX4_root_19 : decode cX4_root 19 = .ok (.iload_n 1, 1) := by decide +kernel
theorem dX4_root_20 : decode cX4_root 20 = .ok (.ireturn, 1) := by decide +kernel
theorem dX4_lengthOf_0 : decode cX4_lengthOf 0 = .ok (.aload_n 0, 1) := by decide +kernel
theorem dX4_lengthOf_1 : decode cX4_lengthOf 1 = .ok (.iload_n 1, 1) := by decide +kernel
theorem dX4_lengthOf_2 : decode cX4_lengthOf 2 = .ok (.invokevirtual 53, 3) := by decide +kernel
theorem dX4_lengthOf_5 : decode cX4_lengthOf 5 = .ok (.aload_n 0, 1) := by decide +kernel
theorem dX4_lengthOf_6 : decode cX4_lengthOf 6 = .ok (.iload_n 2, 1) := by decide +kernel
theorem dX4_lengthOf_7 : decode cX4_lengthOf 7 = .ok (.invokevirtual 53, 3) := by decide +kernel
theorem dX4_lengthOf_10 : decode cX4_lengthOf 10 = .ok (.isub, 1) := by decide +kernel
theorem dX4_lengthOf_11 : decode cX4_lengthOf 11 = .ok (.istore_n 3, 1) := by decide +kernel
theorem dX4_lengthOf_12 : decode cX4_lengthOf 12 = .ok (.aload_n 0, 1) := by decide +kernel
theorem dX4_lengthOf_13 : decode cX4_lengthOf 13 = .ok (.iload_n 1, 1) := by decide +kernel
theorem dX4_lengthOf_14 : decode cX4_lengthOf 14 = .ok (.invokevirtual 56, 3) := by decide +kernel
theorem dX4_lengthOf_17 : decode cX4_lengthOf 17 = .ok (.aload_n 0, 1) := by decide +kernel
theorem dX4_lengthOf_18 : decode cX4_lengthOf 18 = .ok (.iload_n 2, 1) := by decide +kernel
theorem dX4_lengthOf_19 : decode cX4_lengthOf 19 = .ok (.invokevirtual 56, 3) := by decide +kernel
theorem dX4_lengthOf_22 : decode cX4_lengthOf 22 = .ok (.isub, 1) := by decide +kernel
theorem dX4_lengthOf_23 : decode cX4_lengthOf 23 = .ok (.istore 4, 2) := by decide +kernel
theorem dX4_lengthOf_25 : decode cX4_lengthOf 25 = .ok (.iload_n 3, 1) := by decide +kernel
theorem dX4_lengthOf_26 : decode cX4_lengthOf 26 = .ok (.iload_n 3, 1) := by decide +kernel
theorem dX4_lengthOf_27 : decode cX4_lengthOf 27 = .ok (.imul, 1) := by decide +kernel
theorem dX4_lengthOf_28 : decode cX4_lengthOf 28 = .ok (.iload 4, 2) := by decide +kernel
theorem dX4_lengthOf_30 : decode cX4_lengthOf 30 = .ok (.iload 4, 2) := by decide +kernel
theorem dX4_lengthOf_32 : decode cX4_lengthOf 32 = .ok (.imul, 1) := by decide +kernel
theorem dX4_lengthOf_33 : decode cX4_lengthOf 33 = .ok (.iadd, 1) := by decide +kernel
theorem dX4_lengthOf_34 : decode cX4_lengthOf 34 = .ok (.invokestatic 59, 3) := by decide +kernel
theorem dX4_lengthOf_37 : decode cX4_lengthOf 37 = .ok (.ireturn, 1) := by decide +kernel
theorem dX4_cell_0 : decode cX4_cell 0 = .ok (.iload_n 0, 1) := by decide +kernel
theorem dX4_cell_1 : decode cX4_cell 1 = .ok (.bipush 120, 2) := by decide +kernel
theorem dX4_cell_3 : decode cX4_cell 3 = .ok (.if_icmp .ne 8, 3) := by decide +kernel
theorem dX4_cell_6 : decode cX4_cell 6 = .ok (.bipush 11, 2) := by decide +kernel
theorem dX4_cell_8 : decode cX4_cell 8 = .ok (.goto 7, 3) := by decide +kernel
theorem dX4_cell_11 : decode cX4_cell 11 = .ok (.iload_n 0, 1) := by decide +kernel
theorem dX4_cell_12 : decode cX4_cell 12 = .ok (.bipush 10, 2) := by decide +kernel
theorem dX4_cell_14 : decode cX4_cell 14 = .ok (.idiv, 1) := by decide +kernel
theorem dX4_cell_15 : decode cX4_cell 15 = .ok (.ireturn, 1) := by decide +kernel
theorem dX4_crosses_0 : decode cX4_crosses 0 = .ok (.bipush 12, 2) := by decide +kernel
theorem dX4_crosses_2 : decode cX4_crosses 2 = .ok (.iload_n 2, 1) := by decide +kernel
theorem dX4_crosses_3 : decode cX4_crosses 3 = .ok (.invokestatic 62, 3) := by decide +kernel
theorem dX4_crosses_6 : decode cX4_crosses 6 = .ok (.imul, 1) := by decide +kernel
theorem dX4_crosses_7 : decode cX4_crosses 7 = .ok (.iload_n 1, 1) := by decide +kernel
theorem dX4_crosses_8 : decode cX4_crosses 8 = .ok (.invokestatic 62, 3) := by decide +kernel
theorem dX4_crosses_11 : decode cX4_crosses 11 = .ok (.iadd, 1) := by decide +kernel
theorem dX4_crosses_12 : decode cX4_crosses 12 = .ok (.istore_n 3, 1) := by decide +kernel
theorem dX4_crosses_13 : decode cX4_crosses 13 = .ok (.aload_n 0, 1) := by decide +kernel
theorem dX4_crosses_14 : decode cX4_crosses 14 = .ok (.getfield 29, 3) := by decide +kernel
theorem dX4_crosses_17 : decode cX4_crosses 17 = .ok (.iload_n 3, 1) := by decide +kernel
theorem dX4_crosses_18 : decode cX4_crosses 18 = .ok (.iaload, 1) := by decide +kernel
theorem dX4_crosses_19 : decode cX4_crosses 19 = .ok (.aload_n 0, 1) := by decide +kernel
theorem dX4_crosses_20 : decode cX4_crosses 20 = .ok (.getfield 65, 3) := by decide +kernel
theorem dX4_crosses_23 : decode cX4_crosses 23 = .ok (.if_icmp .eq 33, 3) := by decide +kernel
theorem dX4_crosses_26 : decode cX4_crosses 26 = .ok (.aload_n 0, 1) := by decide +kernel
theorem dX4_crosses_27 : decode cX4_crosses 27 = .ok (.getfield 29, 3) := by decide +kernel
theorem dX4_crosses_30 : decode cX4_crosses 30 = .ok (.iload_n 3, 1) := by decide +kernel
theorem dX4_crosses_31 : decode cX4_crosses 31 = .ok (.aload_n 0, 1) := by decide +kernel
theorem dX4_crosses_32 : decode cX4_crosses 32 = .ok (.getfield 65, 3) := by decide +kernel
theorem dX4_crosses_35 : decode cX4_crosses 35 = .ok (.iastore, 1) := by decide +kernel
theorem dX4_crosses_36 : decode cX4_crosses 36 = .ok (.aload_n 0, 1) := by decide +kernel
theorem dX4_crosses_37 : decode cX4_crosses 37 = .ok (.getfield 26, 3) := by decide +kernel
theorem dX4_crosses_40 : decode cX4_crosses 40 = .ok (.aload_n 0, 1) := by decide +kernel
theorem dX4_crosses_41 : decode cX4_crosses 41 = .ok (.getfield 68, 3) := by decide +kernel
theorem dX4_crosses_44 : decode cX4_crosses 44 = .ok (.iload_n 3, 1) := by decide +kernel
theorem dX4_crosses_45 : decode cX4_crosses 45 = .ok (.iastore, 1) := by decide +kernel
theorem dX4_crosses_46 : decode cX4_crosses 46 = .ok (.aload_n 0, 1) := by decide +kernel
theorem dX4_crosses_47 : decode cX4_crosses 47 = .ok (.dup, 1) := by decide +kernel
theorem dX4_crosses_48 : decode cX4_crosses 48 = .ok (.getfield 68, 3) := by decide +kernel
theorem dX4_crosses_51 : decode cX4_crosses 51 = .ok (.iconst 1, 1) := by decide +kernel
theorem dX4_crosses_52 : decode cX4_crosses 52 = .ok (.iadd, 1) := by decide +kernel
theorem dX4_crosses_53 : decode cX4_crosses 53 = .ok (.putfield 68, 3) := by decide +kernel
theorem dX4_crosses_56 : decode cX4_crosses 56 = .ok (.return_, 1) := by decide +kernel
theorem dX4_laysCrossed_0 : decode cX4_laysCrossed 0 = .ok (.iload_n 1, 1) := by decide +kernel
theorem dX4_laysCrossed_1 : decode cX4_laysCrossed 1 = .ok (.iload_n 2, 1) := by decide +kernel
theorem dX4_laysCrossed_2 : decode cX4_laysCrossed 2 = .ok (.if_icmp .ge 7, 3) := by decide +kernel
theorem dX4_laysCrossed_5 : decode cX4_laysCrossed 5 = .ok (.iload_n 1, 1) := by decide +kernel
theorem dX4_laysCrossed_6 : decode cX4_laysCrossed 6 = .ok (.goto 4, 3) := by decide +kernel
theorem dX4_laysCrossed_9 : decode cX4_laysCrossed 9 = .ok (.iload_n 2, 1) := by decide +kernel
theorem dX4_laysCrossed_10 : decode cX4_laysCrossed 10 = .ok (.istore_n 3, 1) := by decide +kernel
theorem dX4_laysCrossed_11 : decode cX4_laysCrossed 11 = .ok (.iload_n 1, 1) := by decide +kernel
theorem dX4_laysCrossed_12 : decode cX4_laysCrossed 12 = .ok (.iload_n 2, 1) := by decide +kernel
theorem dX4_laysCrossed_13 : decode cX4_laysCrossed 13 = .ok (.if_icmp .ge 7, 3) := by decide +kernel
theorem dX4_laysCrossed_16 : decode cX4_laysCrossed 16 = .ok (.iload_n 2, 1) := by decide +kernel
theorem dX4_laysCrossed_17 : decode cX4_laysCrossed 17 = .ok (.goto 4, 3) := by decide +kernel
theorem dX4_laysCrossed_20 : decode cX4_laysCrossed 20 = .ok (.iload_n 1, 1) := by decide +kernel
theorem dX4_laysCrossed_21 : decode cX4_laysCrossed 21 = .ok (.istore 4, 2) := by decide +kernel
theorem dX4_laysCrossed_23 : decode cX4_laysCrossed 23 = .ok (.aload_n 0, 1) := by decide +kernel
theorem dX4_laysCrossed_24 : decode cX4_laysCrossed 24 = .ok (.iload 4, 2) := by decide +kernel
theorem dX4_laysCrossed_26 : decode cX4_laysCrossed 26 = .ok (.invokevirtual 53, 3) := by decide +kernel
theorem dX4_laysCrossed_29 : decode cX4_laysCrossed 29 = .ok (.aload_n 0, 1) := by decide +kernel
theorem dX4_laysCrossed_30 : decode cX4_laysCrossed 30 = .ok (.iload_n 3, 1) := by decide +kernel
theorem dX4_laysCrossed_31 : decode cX4_laysCrossed 31 = .ok (.invokevirtual 53, 3) := by decide +kernel
theorem dX4_laysCrossed_34 : decode cX4_laysCrossed 34 = .ok (.isub, 1) := by decide +kernel
theorem dX4_laysCrossed_35 : decode cX4_laysCrossed 35 = .ok (.istore 5, 2) := by decide +kernel
theorem dX4_laysCrossed_37 : decode cX4_laysCrossed 37 = .ok (.aload_n 0, 1) := by decide +kernel
theorem dX4_laysCrossed_38 : decode cX4_laysCrossed 38 = .ok (.iload 4, 2) := by decide +kernel
theorem dX4_laysCrossed_40 : decode cX4_laysCrossed 40 = .ok (.invokevirtual 56, 3) := by decide +kernel
theorem dX4_laysCrossed_43 : decode cX4_laysCrossed 43 = .ok (.aload_n 0, 1) := by decide +kernel
theorem dX4_laysCrossed_44 : decode cX4_laysCrossed 44 = .ok (.iload_n 3, 1) := by decide +kernel
theorem dX4_laysCrossed_45 : decode cX4_laysCrossed 45 = .ok (.invokevirtual 56, 3) := by decide +kernel
theorem dX4_laysCrossed_48 : decode cX4_laysCrossed 48 = .ok (.isub, 1) := by decide +kernel
theorem dX4_laysCrossed_49 : decode cX4_laysCrossed 49 = .ok (.istore 6, 2) := by decide +kernel
theorem dX4_laysCrossed_51 : decode cX4_laysCrossed 51 = .ok (.iload 5, 2) := by decide +kernel
theorem dX4_laysCrossed_53 : decode cX4_laysCrossed 53 = .ok (.invokestatic 71, 3) := by decide +kernel
theorem dX4_laysCrossed_56 : decode cX4_laysCrossed 56 = .ok (.iload 6, 2) := by decide +kernel
theorem dX4_laysCrossed_58 : decode cX4_laysCrossed 58 = .ok (.invokestatic 71, 3) := by decide +kernel
theorem dX4_laysCrossed_61 : decode cX4_laysCrossed 61 = .ok (.if_icmp .le 11, 3) := by decide +kernel
theorem dX4_laysCrossed_64 : decode cX4_laysCrossed 64 = .ok (.iload 5, 2) := by decide +kernel
theorem dX4_laysCrossed_66 : decode cX4_laysCrossed 66 = .ok (.invokestatic 71, 3) := by decide +kernel
theorem dX4_laysCrossed_69 : decode cX4_laysCrossed 69 = .ok (.goto 8, 3) := by decide +kernel
theorem dX4_laysCrossed_72 : decode cX4_laysCrossed 72 = .ok (.iload 6, 2) := by decide +kernel
theorem dX4_laysCrossed_74 : decode cX4_laysCrossed 74 = .ok (.invokestatic 71, 3) := by decide +kernel
theorem dX4_laysCrossed_77 : decode cX4_laysCrossed 77 = .ok (.istore 7, 2) := by decide +kernel
theorem dX4_laysCrossed_79 : decode cX4_laysCrossed 79 = .ok (.aload_n 0, 1) := by decide +kernel
theorem dX4_laysCrossed_80 : decode cX4_laysCrossed 80 = .ok (.dup, 1) := by decide +kernel
theorem dX4_laysCrossed_81 : decode cX4_laysCrossed 81 = .ok (.getfield 65, 3) := by decide +kernel
theorem dX4_laysCrossed_84 : decode cX4_laysCrossed 84 = .ok (.iconst 1, 1) := by decide +kernel
theorem dX4_laysCrossed_85 : decode cX4_laysCrossed 85 = .ok (.iadd, 1) := by decide +kernel
theorem dX4_laysCrossed_86 : decode cX4_laysCrossed 86 = .ok (.putfield 65, 3) := by decide +kernel
theorem dX4_laysCrossed_89 : decode cX4_laysCrossed 89 = .ok (.aload_n 0, 1) := by decide +kernel
theorem dX4_laysCrossed_90 : decode cX4_laysCrossed 90 = .ok (.iconst 0, 1) := by decide +kernel
theorem dX4_laysCrossed_91 : decode cX4_laysCrossed 91 = .ok (.putfield 68, 3) := by decide +kernel
theorem dX4_laysCrossed_94 : decode cX4_laysCrossed 94 = .ok (.iconst 0, 1) := by decide +kernel
theorem dX4_laysCrossed_95 : decode cX4_laysCrossed 95 = .ok (.istore 8, 2) := by decide +kernel
theorem dX4_laysCrossed_97 : decode cX4_laysCrossed 97 = .ok (.iload 8, 2) := by decide +kernel
theorem dX4_laysCrossed_99 : decode cX4_laysCrossed 99 = .ok (.iload 7, 2) := by decide +kernel
theorem dX4_laysCrossed_101 : decode cX4_laysCrossed 101 = .ok (.if_icmp .gt 41, 3) := by decide +kernel
theorem dX4_laysCrossed_104 : decode cX4_laysCrossed 104 = .ok (.aload_n 0, 1) := by decide +kernel
theorem dX4_laysCrossed_105 : decode cX4_laysCrossed 105 = .ok (.aload_n 0, 1) := by decide +kernel
theorem dX4_laysCrossed_106 : decode cX4_laysCrossed 106 = .ok (.iload_n 3, 1) := by decide +kernel
theorem dX4_laysCrossed_107 : decode cX4_laysCrossed 107 = .ok (.invokevirtual 53, 3) := by decide +kernel
theorem dX4_laysCrossed_110 : decode cX4_laysCrossed 110 = .ok (.iload 5, 2) := by decide +kernel
theorem dX4_laysCrossed_112 : decode cX4_laysCrossed 112 = .ok (.iload 8, 2) := by decide +kernel
theorem dX4_laysCrossed_114 : decode cX4_laysCrossed 114 = .ok (.imul, 1) := by decide +kernel
theorem dX4_laysCrossed_115 : decode cX4_laysCrossed 115 = .ok (.iload 7, 2) := by decide +kernel
theorem dX4_laysCrossed_117 : decode cX4_laysCrossed 117 = .ok (.idiv, 1) := by decide +kernel
theorem dX4_laysCrossed_118 : decode cX4_laysCrossed 118 = .ok (.iadd, 1) := by decide +kernel
theorem dX4_laysCrossed_119 : decode cX4_laysCrossed 119 = .ok (.aload_n 0, 1) := by decide +kernel
theorem dX4_laysCrossed_120 : decode cX4_laysCrossed 120 = .ok (.iload_n 3, 1) := by decide +kernel
theorem dX4_laysCrossed_121 : decode cX4_laysCrossed 121 = .ok (.invokevirtual 56, 3) := by decide +kernel
theorem dX4_laysCrossed_124 : decode cX4_laysCrossed 124 = .ok (.iload 6, 2) := by decide +kernel
theorem dX4_laysCrossed_126 : decode cX4_laysCrossed 126 = .ok (.iload 8, 2) := by decide +kernel
theorem dX4_laysCrossed_128 : decode cX4_laysCrossed 128 = .ok (.imul, 1) := by decide +kernel
theorem dX4_laysCrossed_129 : decode cX4_laysCrossed 129 = .ok (.iload 7, 2) := by decide +kernel
theorem dX4_laysCrossed_131 : decode cX4_laysCrossed 131 = .ok (.idiv, 1) := by decide +kernel
theorem dX4_laysCrossed_132 : decode cX4_laysCrossed 132 = .ok (.iadd, 1) := by decide +kernel
theorem dX4_laysCrossed_133 : decode cX4_laysCrossed 133 = .ok (.invokevirtual 74, 3) := by decide +kernel
theorem dX4_laysCrossed_136 : decode cX4_laysCrossed 136 = .ok (.iinc 8 1, 3) := by decide +kernel
theorem dX4_laysCrossed_139 : decode cX4_laysCrossed 139 = .ok (.goto (-42), 3) := by decide +kernel
theorem dX4_laysCrossed_142 : decode cX4_laysCrossed 142 = .ok (.return_, 1) := by decide +kernel
theorem dX4_ofChord_0 : decode cX4_ofChord 0 = .ok (.aload_n 0, 1) := by decide +kernel
theorem dX4_ofChord_1 : decode cX4_ofChord 1 = .ok (.getfield 7, 3) := by decide +kernel
theorem dX4_ofChord_4 : decode cX4_ofChord 4 = .ok (.bipush 16, 2) := by decide +kernel
theorem dX4_ofChord_6 : decode cX4_ofChord 6 = .ok (.iconst 3, 1) := by decide +kernel
theorem dX4_ofChord_7 : decode cX4_ofChord 7 = .ok (.iload_n 1, 1) := by decide +kernel
theorem dX4_ofChord_8 : decode cX4_ofChord 8 = .ok (.imul, 1) := by decide +kernel
theorem dX4_ofChord_9 : decode cX4_ofChord 9 = .ok (.iadd, 1) := by decide +kernel
theorem dX4_ofChord_10 : decode cX4_ofChord 10 = .ok (.iload_n 2, 1) := by decide +kernel
theorem dX4_ofChord_11 : decode cX4_ofChord 11 = .ok (.iadd, 1) := by decide +kernel
theorem dX4_ofChord_12 : decode cX4_ofChord 12 = .ok (.iaload, 1) := by decide +kernel
theorem dX4_ofChord_13 : decode cX4_ofChord 13 = .ok (.ireturn, 1) := by decide +kernel
theorem dX4_isBetween_0 : decode cX4_isBetween 0 = .ok (.aload_n 0, 1) := by decide +kernel
theorem dX4_isBetween_1 : decode cX4_isBetween 1 = .ok (.iload_n 1, 1) := by decide +kernel
theorem dX4_isBetween_2 : decode cX4_isBetween 2 = .ok (.iconst 0, 1) := by decide +kernel
theorem dX4_isBetween_3 : decode cX4_isBetween 3 = .ok (.invokevirtual 78, 3) := by decide +kernel
theorem dX4_isBetween_6 : decode cX4_isBetween 6 = .ok (.istore 4, 2) := by decide +kernel
theorem dX4_isBetween_8 : decode cX4_isBetween 8 = .ok (.aload_n 0, 1) := by decide +kernel
theorem dX4_isBetween_9 : decode cX4_isBetween 9 = .ok (.iload_n 1, 1) := by decide +kernel
theorem dX4_isBetween_10 : decode cX4_isBetween 10 = .ok (.iconst 1, 1) := by decide +kernel
theorem dX4_isBetween_11 : decode cX4_isBetween 11 = .ok (.invokevirtual 78, 3) := by decide +kernel
theorem dX4_isBetween_14 : decode cX4_isBetween 14 = .ok (.istore 5, 2) := by decide +kernel
theorem dX4_isBetween_16 : decode cX4_isBetween 16 = .ok (.iload 4, 2) := by decide +kernel
theorem dX4_isBetween_18 : decode cX4_isBetween 18 = .ok (.iload_n 2, 1) := by decide +kernel
theorem dX4_isBetween_19 : decode cX4_isBetween 19 = .ok (.if_icmp .ne 9, 3) := by decide +kernel
theorem dX4_isBetween_22 : decode cX4_isBetween 22 = .ok (.iload 5, 2) := by decide +kernel
theorem dX4_isBetween_24 : decode cX4_isBetween 24 = .ok (.iload_n 3, 1) := by decide +kernel
theorem dX4_isBetween_25 : decode cX4_isBetween 25 = .ok (.if_icmp .eq 15, 3) := by decide +kernel
theorem dX4_isBetween_28 : decode cX4_isBetween 28 = .ok (.iload 4, 2) := by decide +kernel
theorem dX4_isBetween_30 : decode cX4_isBetween 30 = .ok (.iload_n 3, 1) := by decide +kernel
theorem dX4_isBetween_31 : decode cX4_isBetween 31 = .ok (.if_icmp .ne 13, 3) := by decide +kernel
theorem dX4_isBetween_34 : decode cX4_isBetween 34 = .ok (.iload 5, 2) := by decide +kernel
theorem dX4_isBetween_36 : decode cX4_isBetween 36 = .ok (.iload_n 2, 1) := by decide +kernel
theorem dX4_isBetween_37 : decode cX4_isBetween 37 = .ok (.if_icmp .ne 7, 3) := by decide +kernel
theorem dX4_isBetween_40 : decode cX4_isBetween 40 = .ok (.iconst 1, 1) := by decide +kernel
theorem dX4_isBetween_41 : decode cX4_isBetween 41 = .ok (.goto 4, 3) := by decide +kernel
theorem dX4_isBetween_44 : decode cX4_isBetween 44 = .ok (.iconst 0, 1) := by decide +kernel
theorem dX4_isBetween_45 : decode cX4_isBetween 45 = .ok (.ireturn, 1) := by decide +kernel
theorem dX4_liesBetween_0 : decode cX4_liesBetween 0 = .ok (.iconst 0, 1) := by decide +kernel
theorem dX4_liesBetween_1 : decode cX4_liesBetween 1 = .ok (.istore_n 3, 1) := by decide +kernel
theorem dX4_liesBetween_2 : decode cX4_liesBetween 2 = .ok (.iconst 0, 1) := by decide +kernel
theorem dX4_liesBetween_3 : decode cX4_liesBetween 3 = .ok (.istore 4, 2) := by decide +kernel
theorem dX4_liesBetween_5 : decode cX4_liesBetween 5 = .ok (.iload 4, 2) := by decide +kernel
theorem dX4_liesBetween_7 : decode cX4_liesBetween 7 = .ok (.aload_n 0, 1) := by decide +kernel
theorem dX4_liesBetween_8 : decode cX4_liesBetween 8 = .ok (.getfield 7, 3) := by decide +kernel
theorem dX4_liesBetween_11 : decode cX4_liesBetween 11 = .ok (.bipush 15, 2) := by decide +kernel
theorem dX4_liesBetween_13 : decode cX4_liesBetween 13 = .ok (.iaload, 1) := by decide +kernel
theorem dX4_liesBetween_14 : decode cX4_liesBetween 14 = .ok (.if_icmp .ge 28, 3) := by decide +kernel
theorem dX4_liesBetween_17 : decode cX4_liesBetween 17 = .ok (.iload_n 3, 1) := by decide +kernel
theorem dX4_liesBetween_18 : decode cX4_liesBetween 18 = .ok (.aload_n 0, 1) := by decide +kernel
theorem dX4_liesBetween_19 : decode cX4_liesBetween 19 = .ok (.iload 4, 2) := by decide +kernel
theorem dX4_liesBetween_21 : decode cX4_liesBetween 21 = .ok (.iload_n 1, 1) := by decide +kernel
theorem dX4_liesBetween_22 : decode cX4_liesBetween 22 = .ok (.iload_n 2, 1) := by decide +kernel
theorem dX4_liesBetween_23 : decode cX4_liesBetween 23 = .ok (.invokevirtual 82, 3) := by decide +kernel
theorem dX4_liesBetween_26 : decode cX4_liesBetween 26 = .ok (.ifCond .eq 7, 3) := by decide +kernel
theorem dX4_liesBetween_29 : decode cX4_liesBetween 29 = .ok (.iconst 1, 1) := by decide +kernel
theorem dX4_liesBetween_30 : decode cX4_liesBetween 30 = .ok (.goto 4, 3) := by decide +kernel
theorem dX4_liesBetween_33 : decode cX4_liesBetween 33 = .ok (.iconst 0, 1) := by decide +kernel
theorem dX4_liesBetween_34 : decode cX4_liesBetween 34 = .ok (.iadd, 1) := by decide +kernel
theorem dX4_liesBetween_35 : decode cX4_liesBetween 35 = .ok (.istore_n 3, 1) := by decide +kernel
theorem dX4_liesBetween_36 : decode cX4_liesBetween 36 = .ok (.iinc 4 1, 3) := by decide +kernel
theorem dX4_liesBetween_39 : decode cX4_liesBetween 39 = .ok (.goto (-34), 3) := by decide +kernel
theorem dX4_liesBetween_42 : decode cX4_liesBetween 42 = .ok (.iload_n 3, 1) := by decide +kernel
theorem dX4_liesBetween_43 : decode cX4_liesBetween 43 = .ok (.ireturn, 1) := by decide +kernel
theorem dX4_shade_0 : decode cX4_shade 0 = .ok (.aload_n 0, 1) := by decide +kernel
theorem dX4_shade_1 : decode cX4_shade 1 = .ok (.getfield 7, 3) := by decide +kernel
theorem dX4_shade_4 : decode cX4_shade 4 = .ok (.bipush 9, 2) := by decide +kernel
theorem dX4_shade_6 : decode cX4_shade 6 = .ok (.iconst 2, 1) := by decide +kernel
theorem dX4_shade_7 : decode cX4_shade 7 = .ok (.iload_n 1, 1) := by decide +kernel
theorem dX4_shade_8 : decode cX4_shade 8 = .ok (.imul, 1) := by decide +kernel
theorem dX4_shade_9 : decode cX4_shade 9 = .ok (.iadd, 1) := by decide +kernel
theorem dX4_shade_10 : decode cX4_shade 10 = .ok (.iaload, 1) := by decide +kernel
theorem dX4_shade_11 : decode cX4_shade 11 = .ok (.ireturn, 1) := by decide +kernel
theorem dX4_left_0 : decode cX4_left 0 = .ok (.aload_n 0, 1) := by decide +kernel
theorem dX4_left_1 : decode cX4_left 1 = .ok (.getfield 7, 3) := by decide +kernel
theorem dX4_left_4 : decode cX4_left 4 = .ok (.bipush 9, 2) := by decide +kernel
theorem dX4_left_6 : decode cX4_left 6 = .ok (.iconst 2, 1) := by decide +kernel
theorem dX4_left_7 : decode cX4_left 7 = .ok (.iload_n 1, 1) := by decide +kernel
theorem dX4_left_8 : decode cX4_left 8 = .ok (.imul, 1) := by decide +kernel
theorem dX4_left_9 : decode cX4_left 9 = .ok (.iadd, 1) := by decide +kernel
theorem dX4_left_10 : decode cX4_left 10 = .ok (.iconst 1, 1) := by decide +kernel
theorem dX4_left_11 : decode cX4_left 11 = .ok (.iadd, 1) := by decide +kernel
theorem dX4_left_12 : decode cX4_left 12 = .ok (.iaload, 1) := by decide +kernel
theorem dX4_left_13 : decode cX4_left 13 = .ok (.ireturn, 1) := by decide +kernel
theorem dX4_darkens_0 : decode cX4_darkens 0 = .ok (.aload_n 0, 1) := by decide +kernel
theorem dX4_darkens_1 : decode cX4_darkens 1 = .ok (.iload_n 1, 1) := by decide +kernel
theorem dX4_darkens_2 : decode cX4_darkens 2 = .ok (.iload_n 2, 1) := by decide +kernel
theorem dX4_darkens_3 : decode cX4_darkens 3 = .ok (.invokevirtual 85, 3) := by decide +kernel
theorem dX4_darkens_6 : decode cX4_darkens 6 = .ok (.iconst 0, 1) := by decide +kernel
theorem dX4_darkens_7 : decode cX4_darkens 7 = .ok (.istore 4, 2) := by decide +kernel
theorem dX4_darkens_9 : decode cX4_darkens 9 = .ok (.iload 4, 2) := by decide +kernel
theorem dX4_darkens_11 : decode cX4_darkens 11 = .ok (.aload_n 0, 1) := by decide +kernel
theorem dX4_darkens_12 : decode cX4_darkens 12 = .ok (.getfield 68, 3) := by decide +kernel
theorem dX4_darkens_15 : decode cX4_darkens 15 = .ok (.if_icmp .ge 29, 3) := by decide +kernel
theorem dX4_darkens_18 : decode cX4_darkens 18 = .ok (.aload_n 0, 1) := by decide +kernel
theorem dX4_darkens_19 : decode cX4_darkens 19 = .ok (.getfield 7, 3) := by decide +kernel
theorem dX4_darkens_22 : decode cX4_darkens 22 = .ok (.sipush 760, 3) := by decide +kernel
theorem dX4_darkens_25 : decode cX4_darkens 25 = .ok (.aload_n 0, 1) := by decide +kernel
theorem dX4_darkens_26 : decode cX4_darkens 26 = .ok (.getfield 26, 3) := by decide +kernel
theorem dX4_darkens_29 : decode cX4_darkens 29 = .ok (.iload 4, 2) := by decide +kernel
theorem dX4_darkens_31 : decode cX4_darkens 31 = .ok (.iaload, 1) := by decide +kernel
theorem dX4_darkens_32 : decode cX4_darkens 32 = .ok (.iadd, 1) := by decide +kernel
theorem dX4_darkens_33 : decode cX4_darkens 33 = .ok (.dup2, 1) := by decide +kernel
theorem dX4_darkens_34 : decode cX4_darkens 34 = .ok (.iaload, 1) := by decide +kernel
theorem dX4_darkens_35 : decode cX4_darkens 35 = .ok (.iload_n 3, 1) := by decide +kernel
theorem dX4_darkens_36 : decode cX4_darkens 36 = .ok (.iadd, 1) := by decide +kernel
theorem dX4_darkens_37 : decode cX4_darkens 37 = .ok (.iastore, 1) := by decide +kernel
theorem dX4_darkens_38 : decode cX4_darkens 38 = .ok (.iinc 4 1, 3) := by decide +kernel
theorem dX4_darkens_41 : decode cX4_darkens 41 = .ok (.goto (-32), 3) := by decide +kernel
theorem dX4_darkens_44 : decode cX4_darkens 44 = .ok (.return_, 1) := by decide +kernel
theorem dX4_winds_0 : decode cX4_winds 0 = .ok (.aload_n 0, 1) := by decide +kernel
theorem dX4_winds_1 : decode cX4_winds 1 = .ok (.getfield 7, 3) := by decide +kernel
theorem dX4_winds_4 : decode cX4_winds 4 = .ok (.iconst 1, 1) := by decide +kernel
theorem dX4_winds_5 : decode cX4_winds 5 = .ok (.iaload, 1) := by decide +kernel
theorem dX4_winds_6 : decode cX4_winds 6 = .ok (.istore_n 2, 1) := by decide +kernel
theorem dX4_winds_7 : decode cX4_winds 7 = .ok (.aload_n 0, 1) := by decide +kernel
theorem dX4_winds_8 : decode cX4_winds 8 = .ok (.getfield 7, 3) := by decide +kernel
theorem dX4_winds_11 : decode cX4_winds 11 = .ok (.bipush 15, 2) := by decide +kernel
theorem dX4_winds_13 : decode cX4_winds 13 = .ok (.iaload, 1) := by decide +kernel
theorem dX4_winds_14 : decode cX4_winds 14 = .ok (.istore_n 3, 1) := by decide +kernel
theorem dX4_winds_15 : decode cX4_winds 15 = .ok (.aload_n 0, 1) := by decide +kernel
theorem dX4_winds_16 : decode cX4_winds 16 = .ok (.getfield 7, 3) := by decide +kernel
theorem dX4_winds_19 : decode cX4_winds 19 = .ok (.bipush 16, 2) := by decide +kernel
theorem dX4_winds_21 : decode cX4_winds 21 = .ok (.iconst 3, 1) := by decide +kernel
theorem dX4_winds_22 : decode cX4_winds 22 = .ok (.iload_n 3, 1) := by decide +kernel
theorem dX4_winds_23 : decode cX4_winds 23 = .ok (.imul, 1) := by decide +kernel
theorem dX4_winds_24 : decode cX4_winds 24 = .ok (.iadd, 1) := by decide +kernel
theorem dX4_winds_25 : decode cX4_winds 25 = .ok (.iload_n 2, 1) := by decide +kernel
theorem dX4_winds_26 : decode cX4_winds 26 = .ok (.iastore, 1) := by decide +kernel
theorem dX4_winds_27 : decode cX4_winds 27 = .ok (.aload_n 0, 1) := by decide +kernel
theorem dX4_winds_28 : decode cX4_winds 28 = .ok (.getfield 7, 3) := by decide +kernel
theorem dX4_winds_31 : decode cX4_winds 31 = .ok (.bipush 16, 2) := by decide +kernel
theorem dX4_winds_33 : decode cX4_winds 33 = .ok (.iconst 3, 1) := by decide +kernel
theorem dX4_winds_34 : decode cX4_winds 34 = .ok (.iload_n 3, 1) := by decide +kernel
theorem dX4_winds_35 : decode cX4_winds 35 = .ok (.imul, 1) := by decide +kernel
theorem dX4_winds_36 : decode cX4_winds 36 = .ok (.iadd, 1) := by decide +kernel
theorem dX4_winds_37 : decode cX4_winds 37 = .ok (.iconst 1, 1) := by decide +kernel
theorem dX4_winds_38 : decode cX4_winds 38 = .ok (.iadd, 1) := by decide +kernel
theorem dX4_winds_39 : decode cX4_winds 39 = .ok (.iload_n 1, 1) := by decide +kernel
theorem dX4_winds_40 : decode cX4_winds 40 = .ok (.iastore, 1) := by decide +kernel
theorem dX4_winds_41 : decode cX4_winds 41 = .ok (.aload_n 0, 1) := by decide +kernel
theorem dX4_winds_42 : decode cX4_winds 42 = .ok (.getfield 7, 3) := by decide +kernel
theorem dX4_winds_45 : decode cX4_winds 45 = .ok (.bipush 16, 2) := by decide +kernel
theorem dX4_winds_47 : decode cX4_winds 47 = .ok (.iconst 3, 1) := by decide +kernel
theorem dX4_winds_48 : decode cX4_winds 48 = .ok (.iload_n 3, 1) := by decide +kernel
theorem dX4_winds_49 : decode cX4_winds 49 = .ok (.imul, 1) := by decide +kernel
theorem dX4_winds_50 : decode cX4_winds 50 = .ok (.iadd, 1) := by decide +kernel
theorem dX4_winds_51 : decode cX4_winds 51 = .ok (.iconst 2, 1) := by decide +kernel
theorem dX4_winds_52 : decode cX4_winds 52 = .ok (.iadd, 1) := by decide +kernel
theorem dX4_winds_53 : decode cX4_winds 53 = .ok (.aload_n 0, 1) := by decide +kernel
theorem dX4_winds_54 : decode cX4_winds 54 = .ok (.getfield 7, 3) := by decide +kernel
theorem dX4_winds_57 : decode cX4_winds 57 = .ok (.iconst 2, 1) := by decide +kernel
theorem dX4_winds_58 : decode cX4_winds 58 = .ok (.iaload, 1) := by decide +kernel
theorem dX4_winds_59 : decode cX4_winds 59 = .ok (.iastore, 1) := by decide +kernel
theorem dX4_winds_60 : decode cX4_winds 60 = .ok (.aload_n 0, 1) := by decide +kernel
theorem dX4_winds_61 : decode cX4_winds 61 = .ok (.getfield 7, 3) := by decide +kernel
theorem dX4_winds_64 : decode cX4_winds 64 = .ok (.bipush 15, 2) := by decide +kernel
theorem dX4_winds_66 : decode cX4_winds 66 = .ok (.dup2, 1) := by decide +kernel
theorem dX4_winds_67 : decode cX4_winds 67 = .ok (.iaload, 1) := by decide +kernel
theorem dX4_winds_68 : decode cX4_winds 68 = .ok (.iconst 1, 1) := by decide +kernel
theorem dX4_winds_69 : decode cX4_winds 69 = .ok (.iadd, 1) := by decide +kernel
theorem dX4_winds_70 : decode cX4_winds 70 = .ok (.iastore, 1) := by decide +kernel
theorem dX4_winds_71 : decode cX4_winds 71 = .ok (.aload_n 0, 1) := by decide +kernel
theorem dX4_winds_72 : decode cX4_winds 72 = .ok (.iload_n 2, 1) := by decide +kernel
theorem dX4_winds_73 : decode cX4_winds 73 = .ok (.iload_n 1, 1) := by decide +kernel
theorem dX4_winds_74 : decode cX4_winds 74 = .ok (.aload_n 0, 1) := by decide +kernel
theorem dX4_winds_75 : decode cX4_winds 75 = .ok (.aload_n 0, 1) := by decide +kernel
theorem dX4_winds_76 : decode cX4_winds 76 = .ok (.getfield 7, 3) := by decide +kernel
theorem dX4_winds_79 : decode cX4_winds 79 = .ok (.iconst 2, 1) := by decide +kernel
theorem dX4_winds_80 : decode cX4_winds 80 = .ok (.iaload, 1) := by decide +kernel
theorem dX4_winds_81 : decode cX4_winds 81 = .ok (.invokevirtual 88, 3) := by decide +kernel
theorem dX4_winds_84 : decode cX4_winds 84 = .ok (.invokevirtual 91, 3) := by decide +kernel
theorem dX4_winds_87 : decode cX4_winds 87 = .ok (.aload_n 0, 1) := by decide +kernel
theorem dX4_winds_88 : decode cX4_winds 88 = .ok (.getfield 7, 3) := by decide +kernel
theorem dX4_winds_91 : decode cX4_winds 91 = .ok (.bipush 9, 2) := by decide +kernel
theorem dX4_winds_93 : decode cX4_winds 93 = .ok (.iconst 2, 1) := by decide +kernel
theorem dX4_winds_94 : decode cX4_winds 94 = .ok (.aload_n 0, 1) := by decide +kernel
theorem dX4_winds_95 : decode cX4_winds 95 = .ok (.getfield 7, 3) := by decide +kernel
theorem dX4_winds_98 : decode cX4_winds 98 = .ok (.iconst 2, 1) := by decide +kernel
theorem dX4_winds_99 : decode cX4_winds 99 = .ok (.iaload, 1) := by decide +kernel
theorem dX4_winds_100 : decode cX4_winds 100 = .ok (.imul, 1) := by decide +kernel
theorem dX4_winds_101 : decode cX4_winds 101 = .ok (.iadd, 1) := by decide +kernel
theorem dX4_winds_102 : decode cX4_winds 102 = .ok (.iconst 1, 1) := by decide +kernel
theorem dX4_winds_103 : decode cX4_winds 103 = .ok (.iadd, 1) := by decide +kernel
theorem dX4_winds_104 : decode cX4_winds 104 = .ok (.dup2, 1) := by decide +kernel
theorem dX4_winds_105 : decode cX4_winds 105 = .ok (.iaload, 1) := by decide +kernel
theorem dX4_winds_106 : decode cX4_winds 106 = .ok (.aload_n 0, 1) := by decide +kernel
theorem dX4_winds_107 : decode cX4_winds 107 = .ok (.iload_n 2, 1) := by decide +kernel
theorem dX4_winds_108 : decode cX4_winds 108 = .ok (.iload_n 1, 1) := by decide +kernel
theorem dX4_winds_109 : decode cX4_winds 109 = .ok (.invokevirtual 95, 3) := by decide +kernel
theorem dX4_winds_112 : decode cX4_winds 112 = .ok (.isub, 1) := by decide +kernel
theorem dX4_winds_113 : decode cX4_winds 113 = .ok (.iastore, 1) := by decide +kernel
theorem dX4_winds_114 : decode cX4_winds 114 = .ok (.aload_n 0, 1) := by decide +kernel
theorem dX4_winds_115 : decode cX4_winds 115 = .ok (.getfield 7, 3) := by decide +kernel
theorem dX4_winds_118 : decode cX4_winds 118 = .ok (.iconst 1, 1) := by decide +kernel
theorem dX4_winds_119 : decode cX4_winds 119 = .ok (.iload_n 1, 1) := by decide +kernel
theorem dX4_winds_120 : decode cX4_winds 120 = .ok (.iastore, 1) := by decide +kernel
theorem dX4_winds_121 : decode cX4_winds 121 = .ok (.return_, 1) := by decide +kernel
theorem dX4_unwinds_0 : decode cX4_unwinds 0 = .ok (.aload_n 0, 1) := by decide +kernel
theorem dX4_unwinds_1 : decode cX4_unwinds 1 = .ok (.getfield 7, 3) := by decide +kernel
theorem dX4_unwinds_4 : decode cX4_unwinds 4 = .ok (.bipush 15, 2) := by decide +kernel
theorem dX4_unwinds_6 : decode cX4_unwinds 6 = .ok (.iaload, 1) := by decide +kernel
theorem dX4_unwinds_7 : decode cX4_unwinds 7 = .ok (.iconst 1, 1) := by decide +kernel
theorem dX4_unwinds_8 : decode cX4_unwinds 8 = .ok (.isub, 1) := by decide +kernel
theorem dX4_unwinds_9 : decode cX4_unwinds 9 = .ok (.istore_n 1, 1) := by decide +kernel
theorem dX4_unwinds_10 : decode cX4_unwinds 10 = .ok (.aload_n 0, 1) := by decide +kernel
theorem dX4_unwinds_11 : decode cX4_unwinds 11 = .ok (.iload_n 1, 1) := by decide +kernel
theorem dX4_unwinds_12 : decode cX4_unwinds 12 = .ok (.iconst 0, 1) := by decide +kernel
theorem dX4_unwinds_13 : decode cX4_unwinds 13 = .ok (.invokevirtual 78, 3) := by decide +kernel
theorem dX4_unwinds_16 : decode cX4_unwinds 16 = .ok (.istore_n 2, 1) := by decide +kernel
theorem dX4_unwinds_17 : decode cX4_unwinds 17 = .ok (.aload_n 0, 1) := by decide +kernel
theorem dX4_unwinds_18 : decode cX4_unwinds 18 = .ok (.iload_n 1, 1) := by decide +kernel
theorem dX4_unwinds_19 : decode cX4_unwinds 19 = .ok (.iconst 1, 1) := by decide +kernel
theorem dX4_unwinds_20 : decode cX4_unwinds 20 = .ok (.invokevirtual 78, 3) := by decide +kernel
theorem dX4_unwinds_23 : decode cX4_unwinds 23 = .ok (.istore_n 3, 1) := by decide +kernel
theorem dX4_unwinds_24 : decode cX4_unwinds 24 = .ok (.aload_n 0, 1) := by decide +kernel
theorem dX4_unwinds_25 : decode cX4_unwinds 25 = .ok (.iload_n 1, 1) := by decide +kernel
theorem dX4_unwinds_26 : decode cX4_unwinds 26 = .ok (.iconst 2, 1) := by decide +kernel
theorem dX4_unwinds_27 : decode cX4_unwinds 27 = .ok (.invokevirtual 78, 3) := by decide +kernel
theorem dX4_unwinds_30 : decode cX4_unwinds 30 = .ok (.istore 4, 2) := by decide +kernel
theorem dX4_unwinds_32 : decode cX4_unwinds 32 = .ok (.aload_n 0, 1) := by decide +kernel
theorem dX4_unwinds_33 : decode cX4_unwinds 33 = .ok (.getfield 7, 3) := by decide +kernel
theorem dX4_unwinds_36 : decode cX4_unwinds 36 = .ok (.bipush 15, 2) := by decide +kernel
theorem dX4_unwinds_38 : decode cX4_unwinds 38 = .ok (.dup2, 1) := by decide +kernel
theorem dX4_unwinds_39 : decode cX4_unwinds 39 = .ok (.iaload, 1) := by decide +kernel
theorem dX4_unwinds_40 : decode cX4_unwinds 40 = .ok (.iconst 1, 1) := by decide +kernel
theorem dX4_unwinds_41 : decode cX4_unwinds 41 = .ok (.isub, 1) := by decide +kernel
theorem dX4_unwinds_42 : decode cX4_unwinds 42 = .ok (.iastore, 1) := by decide +kernel
theorem dX4_unwinds_43 : decode cX4_unwinds 43 = .ok (.aload_n 0, 1) := by decide +kernel
theorem dX4_unwinds_44 : decode cX4_unwinds 44 = .ok (.iload_n 2, 1) := by decide +kernel
theorem dX4_unwinds_45 : decode cX4_unwinds 45 = .ok (.iload_n 3, 1) := by decide +kernel
theorem dX4_unwinds_46 : decode cX4_unwinds 46 = .ok (.aload_n 0, 1) := by decide +kernel
theorem dX4_unwinds_47 : decode cX4_unwinds 47 = .ok (.iload 4, 2) := by decide +kernel
theorem dX4_unwinds_49 : decode cX4_unwinds 49 = .ok (.invokevirtual 88, 3) := by decide +kernel
theorem dX4_unwinds_52 : decode cX4_unwinds 52 = .ok (.ineg, 1) := by decide +kernel
theorem dX4_unwinds_53 : decode cX4_unwinds 53 = .ok (.invokevirtual 91, 3) := by decide +kernel
theorem dX4_unwinds_56 : decode cX4_unwinds 56 = .ok (.aload_n 0, 1) := by decide +kernel
theorem dX4_unwinds_57 : decode cX4_unwinds 57 = .ok (.getfield 7, 3) := by decide +kernel
theorem dX4_unwinds_60 : decode cX4_unwinds 60 = .ok (.bipush 9, 2) := by decide +kernel
theorem dX4_unwinds_62 : decode cX4_unwinds 62 = .ok (.iconst 2, 1) := by decide +kernel
theorem dX4_unwinds_63 : decode cX4_unwinds 63 = .ok (.iload 4, 2) := by decide +kernel
theorem dX4_unwinds_65 : decode cX4_unwinds 65 = .ok (.imul, 1) := by decide +kernel
theorem dX4_unwinds_66 : decode cX4_unwinds 66 = .ok (.iadd, 1) := by decide +kernel
theorem dX4_unwinds_67 : decode cX4_unwinds 67 = .ok (.iconst 1, 1) := by decide +kernel
theorem dX4_unwinds_68 : decode cX4_unwinds 68 = .ok (.iadd, 1) := by decide +kernel
theorem dX4_unwinds_69 : decode cX4_unwinds 69 = .ok (.dup2, 1) := by decide +kernel
theorem dX4_unwinds_70 : decode cX4_unwinds 70 = .ok (.iaload, 1) := by decide +kernel
theorem dX4_unwinds_71 : decode cX4_unwinds 71 = .ok (.aload_n 0, 1) := by decide +kernel
theorem dX4_unwinds_72 : decode cX4_unwinds 72 = .ok (.iload_n 2, 1) := by decide +kernel
theorem dX4_unwinds_73 : decode cX4_unwinds 73 = .ok (.iload_n 3, 1) := by decide +kernel
theorem dX4_unwinds_74 : decode cX4_unwinds 74 = .ok (.invokevirtual 95, 3) := by decide +kernel
theorem dX4_unwinds_77 : decode cX4_unwinds 77 = .ok (.iadd, 1) := by decide +kernel
theorem dX4_unwinds_78 : decode cX4_unwinds 78 = .ok (.iastore, 1) := by decide +kernel
theorem dX4_unwinds_79 : decode cX4_unwinds 79 = .ok (.aload_n 0, 1) := by decide +kernel
theorem dX4_unwinds_80 : decode cX4_unwinds 80 = .ok (.getfield 7, 3) := by decide +kernel
theorem dX4_unwinds_83 : decode cX4_unwinds 83 = .ok (.iconst 1, 1) := by decide +kernel
theorem dX4_unwinds_84 : decode cX4_unwinds 84 = .ok (.iload_n 2, 1) := by decide +kernel
theorem dX4_unwinds_85 : decode cX4_unwinds 85 = .ok (.iastore, 1) := by decide +kernel
theorem dX4_unwinds_86 : decode cX4_unwinds 86 = .ok (.aload_n 0, 1) := by decide +kernel
theorem dX4_unwinds_87 : decode cX4_unwinds 87 = .ok (.getfield 7, 3) := by decide +kernel
theorem dX4_unwinds_90 : decode cX4_unwinds 90 = .ok (.iconst 2, 1) := by decide +kernel
theorem dX4_unwinds_91 : decode cX4_unwinds 91 = .ok (.iload 4, 2) := by decide +kernel
theorem dX4_unwinds_93 : decode cX4_unwinds 93 = .ok (.iastore, 1) := by decide +kernel
theorem dX4_unwinds_94 : decode cX4_unwinds 94 = .ok (.iconst 0, 1) := by decide +kernel
theorem dX4_unwinds_95 : decode cX4_unwinds 95 = .ok (.istore 5, 2) := by decide +kernel
theorem dX4_unwinds_97 : decode cX4_unwinds 97 = .ok (.iload 5, 2) := by decide +kernel
theorem dX4_unwinds_99 : decode cX4_unwinds 99 = .ok (.iconst 3, 1) := by decide +kernel
theorem dX4_unwinds_100 : decode cX4_unwinds 100 = .ok (.if_icmp .ge 24, 3) := by decide +kernel
theorem dX4_unwinds_103 : decode cX4_unwinds 103 = .ok (.aload_n 0, 1) := by decide +kernel
theorem dX4_unwinds_104 : decode cX4_unwinds 104 = .ok (.getfield 7, 3) := by decide +kernel
theorem dX4_unwinds_107 : decode cX4_unwinds 107 = .ok (.bipush 16, 2) := by decide +kernel
theorem dX4_unwinds_109 : decode cX4_unwinds 109 = .ok (.iconst 3, 1) := by decide +kernel
theorem dX4_unwinds_110 : decode cX4_unwinds 110 = .ok (.iload_n 1, 1) := by decide +kernel
theorem dX4_unwinds_111 : decode cX4_unwinds 111 = .ok (.imul, 1) := by decide +kernel
theorem dX4_unwinds_112 : decode cX4_unwinds 112 = .ok (.iadd, 1) := by decide +kernel
theorem dX4_unwinds_113 : decode cX4_unwinds 113 = .ok (.iload 5, 2) := by decide +kernel
theorem dX4_unwinds_115 : decode cX4_unwinds 115 = .ok (.iadd, 1) := by decide +kernel
theorem dX4_unwinds_116 : decode cX4_unwinds 116 = .ok (.iconst 0, 1) := by decide +kernel
theorem dX4_unwinds_117 : decode cX4_unwinds 117 = .ok (.iastore, 1) := by decide +kernel
theorem dX4_unwinds_118 : decode cX4_unwinds 118 = .ok (.iinc 5 1, 3) := by decide +kernel
theorem dX4_unwinds_121 : decode cX4_unwinds 121 = .ok (.goto (-24), 3) := by decide +kernel
theorem dX4_unwinds_124 : decode cX4_unwinds 124 = .ok (.return_, 1) := by decide +kernel
theorem dX4_refused_0 : decode cX4_refused 0 = .ok (.iload_n 1, 1) := by decide +kernel
theorem dX4_refused_1 : decode cX4_refused 1 = .ok (.iload_n 2, 1) := by decide +kernel
theorem dX4_refused_2 : decode cX4_refused 2 = .ok (.isub, 1) := by decide +kernel
theorem dX4_refused_3 : decode cX4_refused 3 = .ok (.invokestatic 71, 3) := by decide +kernel
theorem dX4_refused_6 : decode cX4_refused 6 = .ok (.istore 4, 2) := by decide +kernel
theorem dX4_refused_8 : decode cX4_refused 8 = .ok (.iload 4, 2) := by decide +kernel
theorem dX4_refused_10 : decode cX4_refused 10 = .ok (.aload_n 0, 1) := by decide +kernel
theorem dX4_refused_11 : decode cX4_refused 11 = .ok (.getfield 7, 3) := by decide +kernel
theorem dX4_refused_14 : decode cX4_refused 14 = .ok (.iconst 0, 1) := by decide +kernel
theorem dX4_refused_15 : decode cX4_refused 15 = .ok (.iaload, 1) := by decide +kernel
theorem dX4_refused_16 : decode cX4_refused 16 = .ok (.iload 4, 2) := by decide +kernel
theorem dX4_refused_18 : decode cX4_refused 18 = .ok (.isub, 1) := by decide +kernel
theorem dX4_refused_19 : decode cX4_refused 19 = .ok (.if_icmp .ge 8, 3) := by decide +kernel
theorem dX4_refused_22 : decode cX4_refused 22 = .ok (.iload 4, 2) := by decide +kernel
theorem dX4_refused_24 : decode cX4_refused 24 = .ok (.goto 12, 3) := by decide +kernel
theorem dX4_refused_27 : decode cX4_refused 27 = .ok (.aload_n 0, 1) := by decide +kernel
theorem dX4_refused_28 : decode cX4_refused 28 = .ok (.getfield 7, 3) := by decide +kernel
theorem dX4_refused_31 : decode cX4_refused 31 = .ok (.iconst 0, 1) := by decide +kernel
theorem dX4_refused_32 : decode cX4_refused 32 = .ok (.iaload, 1) := by decide +kernel
theorem dX4_refused_33 : decode cX4_refused 33 = .ok (.iload 4, 2) := by decide +kernel
theorem dX4_refused_35 : decode cX4_refused 35 = .ok (.isub, 1) := by decide +kernel
theorem dX4_refused_36 : decode cX4_refused 36 = .ok (.istore 5, 2) := by decide +kernel
theorem dX4_refused_38 : decode cX4_refused 38 = .ok (.iload 4, 2) := by decide +kernel
theorem dX4_refused_40 : decode cX4_refused 40 = .ok (.ifCond .eq 15, 3) := by decide +kernel
theorem dX4_refused_43 : decode cX4_refused 43 = .ok (.iload 5, 2) := by decide +kernel
theorem dX4_refused_45 : decode cX4_refused 45 = .ok (.aload_n 0, 1) := by decide +kernel
theorem dX4_refused_46 : decode cX4_refused 46 = .ok (.getfield 7, 3) := by decide +kernel
theorem dX4_refused_49 : decode cX4_refused 49 = .ok (.bipush 6, 2) := by decide +kernel
theorem dX4_refused_51 : decode cX4_refused 51 = .ok (.iaload, 1) := by decide +kernel
theorem dX4_refused_52 : decode cX4_refused 52 = .ok (.if_icmp .ge 14, 3) := by decide +kernel
theorem dX4_refused_55 : decode cX4_refused 55 = .ok (.iload 4, 2) := by decide +kernel
theorem dX4_refused_57 : decode cX4_refused 57 = .ok (.ifCond .ne 7, 3) := by decide +kernel
theorem dX4_refused_60 : decode cX4_refused 60 = .ok (.iconst 1, 1) := by decide +kernel
theorem dX4_refused_61 : decode cX4_refused 61 = .ok (.goto 4, 3) := by decide +kernel
theorem dX4_refused_64 : decode cX4_refused 64 = .ok (.iconst 2, 1) := by decide +kernel
theorem dX4_refused_65 : decode cX4_refused 65 = .ok (.ireturn, 1) := by decide +kernel
theorem dX4_refused_66 : decode cX4_refused 66 = .ok (.aload_n 0, 1) := by decide +kernel
theorem dX4_refused_67 : decode cX4_refused 67 = .ok (.iload_n 1, 1) := by decide +kernel
theorem dX4_refused_68 : decode cX4_refused 68 = .ok (.iload_n 2, 1) := by decide +kernel
theorem dX4_refused_69 : decode cX4_refused 69 = .ok (.invokevirtual 98, 3) := by decide +kernel
theorem dX4_refused_72 : decode cX4_refused 72 = .ok (.aload_n 0, 1) := by decide +kernel
theorem dX4_refused_73 : decode cX4_refused 73 = .ok (.getfield 7, 3) := by decide +kernel
theorem dX4_refused_76 : decode cX4_refused 76 = .ok (.bipush 7, 2) := by decide +kernel
theorem dX4_refused_78 : decode cX4_refused 78 = .ok (.iaload, 1) := by decide +kernel
theorem dX4_refused_79 : decode cX4_refused 79 = .ok (.if_icmp .lt 7, 3) := by decide +kernel
theorem dX4_refused_82 : decode cX4_refused 82 = .ok (.iconst 3, 1) := by decide +kernel
theorem dX4_refused_83 : decode cX4_refused 83 = .ok (.goto 22, 3) := by decide +kernel
theorem dX4_refused_86 : decode cX4_refused 86 = .ok (.aload_n 0, 1) := by decide +kernel
theorem dX4_refused_87 : decode cX4_refused 87 = .ok (.iload_n 3, 1) := by decide +kernel
theorem dX4_refused_88 : decode cX4_refused 88 = .ok (.invokevirtual 101, 3) := by decide +kernel
theorem dX4_refused_91 : decode cX4_refused 91 = .ok (.aload_n 0, 1) := by decide +kernel
theorem dX4_refused_92 : decode cX4_refused 92 = .ok (.iload_n 1, 1) := by decide +kernel
theorem dX4_refused_93 : decode cX4_refused 93 = .ok (.iload_n 2, 1) := by decide +kernel
theorem dX4_refused_94 : decode cX4_refused 94 = .ok (.invokevirtual 95, 3) := by decide +kernel
theorem dX4_refused_97 : decode cX4_refused 97 = .ok (.if_icmp .ge 7, 3) := by decide +kernel
theorem dX4_refused_100 : decode cX4_refused 100 = .ok (.iconst 4, 1) := by decide +kernel
theorem dX4_refused_101 : decode cX4_refused 101 = .ok (.goto 4, 3) := by decide +kernel
theorem dX4_refused_104 : decode cX4_refused 104 = .ok (.iconst 0, 1) := by decide +kernel
theorem dX4_refused_105 : decode cX4_refused 105 = .ok (.ireturn, 1) := by decide +kernel
theorem dX4_lack_0 : decode cX4_lack 0 = .ok (.aload_n 0, 1) := by decide +kernel
theorem dX4_lack_1 : decode cX4_lack 1 = .ok (.getfield 7, 3) := by decide +kernel
theorem dX4_lack_4 : decode cX4_lack 4 = .ok (.sipush 616, 3) := by decide +kernel
theorem dX4_lack_7 : decode cX4_lack 7 = .ok (.iload_n 1, 1) := by decide +kernel
theorem dX4_lack_8 : decode cX4_lack 8 = .ok (.iadd, 1) := by decide +kernel
theorem dX4_lack_9 : decode cX4_lack 9 = .ok (.iaload, 1) := by decide +kernel
theorem dX4_lack_10 : decode cX4_lack 10 = .ok (.aload_n 0, 1) := by decide +kernel
theorem dX4_lack_11 : decode cX4_lack 11 = .ok (.getfield 7, 3) := by decide +kernel
theorem dX4_lack_14 : decode cX4_lack 14 = .ok (.bipush 8, 2) := by decide +kernel
theorem dX4_lack_16 : decode cX4_lack 16 = .ok (.iaload, 1) := by decide +kernel
theorem dX4_lack_17 : decode cX4_lack 17 = .ok (.imul, 1) := by decide +kernel
theorem dX4_lack_18 : decode cX4_lack 18 = .ok (.aload_n 0, 1) := by decide +kernel
theorem dX4_lack_19 : decode cX4_lack 19 = .ok (.getfield 7, 3) := by decide +kernel
theorem dX4_lack_22 : decode cX4_lack 22 = .ok (.sipush 760, 3) := by decide +kernel
theorem dX4_lack_25 : decode cX4_lack 25 = .ok (.iload_n 1, 1) := by decide +kernel
theorem dX4_lack_26 : decode cX4_lack 26 = .ok (.iadd, 1) := by decide +kernel
theorem dX4_lack_27 : decode cX4_lack 27 = .ok (.iaload, 1) := by decide +kernel
theorem dX4_lack_28 : decode cX4_lack 28 = .ok (.isub, 1) := by decide +kernel
theorem dX4_lack_29 : decode cX4_lack 29 = .ok (.ireturn, 1) := by decide +kernel
theorem dX4_misfit_0 : decode cX4_misfit 0 = .ok (.iconst 0, 1) := by decide +kernel
theorem dX4_misfit_1 : decode cX4_misfit 1 = .ok (.istore_n 1, 1) := by decide +kernel
theorem dX4_misfit_2 : decode cX4_misfit 2 = .ok (.iconst 0, 1) := by decide +kernel
theorem dX4_misfit_3 : decode cX4_misfit 3 = .ok (.istore_n 2, 1) := by decide +kernel
theorem dX4_misfit_4 : decode cX4_misfit 4 = .ok (.iload_n 2, 1) := by decide +kernel
theorem dX4_misfit_5 : decode cX4_misfit 5 = .ok (.sipush 144, 3) := by decide +kernel
theorem dX4_misfit_8 : decode cX4_misfit 8 = .ok (.if_icmp .ge 20, 3) := by decide +kernel
theorem dX4_misfit_11 : decode cX4_misfit 11 = .ok (.iload_n 1, 1) := by decide +kernel
theorem dX4_misfit_12 : decode cX4_misfit 12 = .ok (.aload_n 0, 1) := by decide +kernel
theorem dX4_misfit_13 : decode cX4_misfit 13 = .ok (.iload_n 2, 1) := by decide +kernel
theorem dX4_misfit_14 : decode cX4_misfit 14 = .ok (.invokevirtual 104, 3) := by decide +kernel
theorem dX4_misfit_17 : decode cX4_misfit 17 = .ok (.invokestatic 71, 3) := by decide +kernel
theorem dX4_misfit_20 : decode cX4_misfit 20 = .ok (.iadd, 1) := by decide +kernel
theorem dX4_misfit_21 : decode cX4_misfit 21 = .ok (.istore_n 1, 1) := by decide +kernel
theorem dX4_misfit_22 : decode cX4_misfit 22 = .ok (.iinc 2 1, 3) := by decide +kernel
theorem dX4_misfit_25 : decode cX4_misfit 25 = .ok (.goto (-21), 3) := by decide +kernel
theorem dX4_misfit_28 : decode cX4_misfit 28 = .ok (.iload_n 1, 1) := by decide +kernel
theorem dX4_misfit_29 : decode cX4_misfit 29 = .ok (.ireturn, 1) := by decide +kernel
theorem dX4_gained_0 : decode cX4_gained 0 = .ok (.iconst 0, 1) := by decide +kernel
theorem dX4_gained_1 : decode cX4_gained 1 = .ok (.istore 4, 2) := by decide +kernel
theorem dX4_gained_3 : decode cX4_gained 3 = .ok (.aload_n 0, 1) := by decide +kernel
theorem dX4_gained_4 : decode cX4_gained 4 = .ok (.iload_n 1, 1) := by decide +kernel
theorem dX4_gained_5 : decode cX4_gained 5 = .ok (.iload_n 2, 1) := by decide +kernel
theorem dX4_gained_6 : decode cX4_gained 6 = .ok (.invokevirtual 85, 3) := by decide +kernel
theorem dX4_gained_9 : decode cX4_gained 9 = .ok (.iconst 0, 1) := by decide +kernel
theorem dX4_gained_10 : decode cX4_gained 10 = .ok (.istore 5, 2) := by decide +kernel
theorem dX4_gained_12 : decode cX4_gained 12 = .ok (.iload 5, 2) := by decide +kernel
theorem dX4_gained_14 : decode cX4_gained 14 = .ok (.aload_n 0, 1) := by decide +kernel
theorem dX4_gained_15 : decode cX4_gained 15 = .ok (.getfield 68, 3) := by decide +kernel
theorem dX4_gained_18 : decode cX4_gained 18 = .ok (.if_icmp .ge 40, 3) := by decide +kernel
theorem dX4_gained_21 : decode cX4_gained 21 = .ok (.aload_n 0, 1) := by decide +kernel
theorem dX4_gained_22 : decode cX4_gained 22 = .ok (.aload_n 0, 1) := by decide +kernel
theorem dX4_gained_23 : decode cX4_gained 23 = .ok (.getfield 26, 3) := by decide +kernel
theorem dX4_gained_26 : decode cX4_gained 26 = .ok (.iload 5, 2) := by decide +kernel
theorem dX4_gained_28 : decode cX4_gained 28 = .ok (.iaload, 1) := by decide +kernel
theorem dX4_gained_29 : decode cX4_gained 29 = .ok (.invokevirtual 104, 3) := by decide +kernel
theorem dX4_gained_32 : decode cX4_gained 32 = .ok (.istore 6, 2) := by decide +kernel
theorem dX4_gained_34 : decode cX4_gained 34 = .ok (.iload 4, 2) := by decide +kernel
theorem dX4_gained_36 : decode cX4_gained 36 = .ok (.iload 6, 2) := by decide +kernel
theorem dX4_gained_38 : decode cX4_gained 38 = .ok (.invokestatic 71, 3) := by decide +kernel
theorem dX4_gained_41 : decode cX4_gained 41 = .ok (.iload 6, 2) := by decide +kernel
theorem dX4_gained_43 : decode cX4_gained 43 = .ok (.iload_n 3, 1) := by decide +kernel
theorem dX4_gained_44 : decode cX4_gained 44 = .ok (.isub, 1) := by decide +kernel
theorem dX4_gained_45 : decode cX4_gained 45 = .ok (.invokestatic 71, 3) := by decide +kernel
theorem dX4_gained_48 : decode cX4_gained 48 = .ok (.isub, 1) := by decide +kernel
theorem dX4_gained_49 : decode cX4_gained 49 = .ok (.iadd, 1) := by decide +kernel
theorem dX4_gained_50 : decode cX4_gained 50 = .ok (.istore 4, 2) := by decide +kernel
theorem dX4_gained_52 : decode cX4_gained 52 = .ok (.iinc 5 1, 3) := by decide +kernel
theorem dX4_gained_55 : decode cX4_gained 55 = .ok (.goto (-43), 3) := by decide +kernel
theorem dX4_gained_58 : decode cX4_gained 58 = .ok (.iload 4, 2) := by decide +kernel
theorem dX4_gained_60 : decode cX4_gained 60 = .ok (.ireturn, 1) := by decide +kernel
theorem dX4_isNearer_0 : decode cX4_isNearer 0 = .ok (.aload_n 0, 1) := by decide +kernel
theorem dX4_isNearer_1 : decode cX4_isNearer 1 = .ok (.aload_n 0, 1) := by decide +kernel
theorem dX4_isNearer_2 : decode cX4_isNearer 2 = .ok (.getfield 7, 3) := by decide +kernel
theorem dX4_isNearer_5 : decode cX4_isNearer 5 = .ok (.iconst 1, 1) := by decide +kernel
theorem dX4_isNearer_6 : decode cX4_isNearer 6 = .ok (.iaload, 1) := by decide +kernel
theorem dX4_isNearer_7 : decode cX4_isNearer 7 = .ok (.iload_n 1, 1) := by decide +kernel
theorem dX4_isNearer_8 : decode cX4_isNearer 8 = .ok (.invokevirtual 98, 3) := by decide +kernel
theorem dX4_isNearer_11 : decode cX4_isNearer 11 = .ok (.aload_n 0, 1) := by decide +kernel
theorem dX4_isNearer_12 : decode cX4_isNearer 12 = .ok (.aload_n 0, 1) := by decide +kernel
theorem dX4_isNearer_13 : decode cX4_isNearer 13 = .ok (.getfield 7, 3) := by decide +kernel
theorem dX4_isNearer_16 : decode cX4_isNearer 16 = .ok (.iconst 1, 1) := by decide +kernel
theorem dX4_isNearer_17 : decode cX4_isNearer 17 = .ok (.iaload, 1) := by decide +kernel
theorem dX4_isNearer_18 : decode cX4_isNearer 18 = .ok (.iload_n 2, 1) := by decide +kernel
theorem dX4_isNearer_19 : decode cX4_isNearer 19 = .ok (.invokevirtual 98, 3) := by decide +kernel
theorem dX4_isNearer_22 : decode cX4_isNearer 22 = .ok (.isub, 1) := by decide +kernel
theorem dX4_isNearer_23 : decode cX4_isNearer 23 = .ok (.istore_n 3, 1) := by decide +kernel
theorem dX4_isNearer_24 : decode cX4_isNearer 24 = .ok (.aload_n 0, 1) := by decide +kernel
theorem dX4_isNearer_25 : decode cX4_isNearer 25 = .ok (.aload_n 0, 1) := by decide +kernel
theorem dX4_isNearer_26 : decode cX4_isNearer 26 = .ok (.getfield 7, 3) := by decide +kernel
theorem dX4_isNearer_29 : decode cX4_isNearer 29 = .ok (.iconst 1, 1) := by decide +kernel
theorem dX4_isNearer_30 : decode cX4_isNearer 30 = .ok (.iaload, 1) := by decide +kernel
theorem dX4_isNearer_31 : decode cX4_isNearer 31 = .ok (.iload_n 1, 1) := by decide +kernel
theorem dX4_isNearer_32 : decode cX4_isNearer 32 = .ok (.invokevirtual 95, 3) := by decide +kernel
theorem dX4_isNearer_35 : decode cX4_isNearer 35 = .ok (.aload_n 0, 1) := by decide +kernel
theorem dX4_isNearer_36 : decode cX4_isNearer 36 = .ok (.aload_n 0, 1) := by decide +kernel
theorem dX4_isNearer_37 : decode cX4_isNearer 37 = .ok (.getfield 7, 3) := by decide +kernel
theorem dX4_isNearer_40 : decode cX4_isNearer 40 = .ok (.iconst 1, 1) := by decide +kernel
theorem dX4_isNearer_41 : decode cX4_isNearer 41 = .ok (.iaload, 1) := by decide +kernel
theorem dX4_isNearer_42 : decode cX4_isNearer 42 = .ok (.iload_n 2, 1) := by decide +kernel
theorem dX4_isNearer_43 : decode cX4_isNearer 43 = .ok (.invokevirtual 95, 3) := by decide +kernel
theorem dX4_isNearer_46 : decode cX4_isNearer 46 = .ok (.isub, 1) := by decide +kernel
theorem dX4_isNearer_47 : decode cX4_isNearer 47 = .ok (.istore 4, 2) := by decide +kernel
theorem dX4_isNearer_49 : decode cX4_isNearer 49 = .ok (.iload_n 3, 1) := by decide +kernel
theorem dX4_isNearer_50 : decode cX4_isNearer 50 = .ok (.ifCond .eq 15, 3) := by decide +kernel
theorem dX4_isNearer_53 : decode cX4_isNearer 53 = .ok (.iload_n 3, 1) := by decide +kernel
theorem dX4_isNearer_54 : decode cX4_isNearer 54 = .ok (.ifCond .ge 7, 3) := by decide +kernel
theorem dX4_isNearer_57 : decode cX4_isNearer 57 = .ok (.iconst 1, 1) := by decide +kernel
theorem dX4_isNearer_58 : decode cX4_isNearer 58 = .ok (.goto 17, 3) := by decide +kernel
theorem dX4_isNearer_61 : decode cX4_isNearer 61 = .ok (.iconst 0, 1) := by decide +kernel
theorem dX4_isNearer_62 : decode cX4_isNearer 62 = .ok (.goto 13, 3) := by decide +kernel
theorem dX4_isNearer_65 : decode cX4_isNearer 65 = .ok (.iload 4, 2) := by decide +kernel
theorem dX4_isNearer_67 : decode cX4_isNearer 67 = .ok (.ifCond .ge 7, 3) := by decide +kernel
theorem dX4_isNearer_70 : decode cX4_isNearer 70 = .ok (.iconst 1, 1) := by decide +kernel
theorem dX4_isNearer_71 : decode cX4_isNearer 71 = .ok (.goto 4, 3) := by decide +kernel
theorem dX4_isNearer_74 : decode cX4_isNearer 74 = .ok (.iconst 0, 1) := by decide +kernel
theorem dX4_isNearer_75 : decode cX4_isNearer 75 = .ok (.ireturn, 1) := by decide +kernel
theorem dX4_bestWith_0 : decode cX4_bestWith 0 = .ok (.iconst (-1), 1) := by decide +kernel
theorem dX4_bestWith_1 : decode cX4_bestWith 1 = .ok (.istore_n 2, 1) := by decide +kernel
theorem dX4_bestWith_2 : decode cX4_bestWith 2 = .ok (.iconst 0, 1) := by decide +kernel
theorem dX4_bestWith_3 : decode cX4_bestWith 3 = .ok (.istore_n 3, 1) := by decide +kernel
theorem dX4_bestWith_4 : decode cX4_bestWith 4 = .ok (.iconst 0, 1) := by decide +kernel
theorem dX4_bestWith_5 : decode cX4_bestWith 5 = .ok (.istore 4, 2) := by decide +kernel
theorem dX4_bestWith_7 : decode cX4_bestWith 7 = .ok (.iload 4, 2) := by decide +kernel
theorem dX4_bestWith_9 : decode cX4_bestWith 9 = .ok (.aload_n 0, 1) := by decide +kernel
theorem dX4_bestWith_10 : decode cX4_bestWith 10 = .ok (.getfield 7, 3) := by decide +kernel
theorem dX4_bestWith_13 : decode cX4_bestWith 13 = .ok (.iconst 0, 1) := by decide +kernel
theorem dX4_bestWith_14 : decode cX4_bestWith 14 = .ok (.iaload, 1) := by decide +kernel
theorem dX4_bestWith_15 : decode cX4_bestWith 15 = .ok (.if_icmp .ge 102, 3) := by decide +kernel
theorem dX4_bestWith_18 : decode cX4_bestWith 18 = .ok (.aload_n 0, 1) := by decide +kernel
theorem dX4_bestWith_19 : decode cX4_bestWith 19 = .ok (.aload_n 0, 1) := by decide +kernel
theorem dX4_bestWith_20 : decode cX4_bestWith 20 = .ok (.getfield 7, 3) := by decide +kernel
theorem dX4_bestWith_23 : decode cX4_bestWith 23 = .ok (.iconst 1, 1) := by decide +kernel
theorem dX4_bestWith_24 : decode cX4_bestWith 24 = .ok (.iaload, 1) := by decide +kernel
theorem dX4_bestWith_25 : decode cX4_bestWith 25 = .ok (.iload 4, 2) := by decide +kernel
theorem dX4_bestWith_27 : decode cX4_bestWith 27 = .ok (.iload_n 1, 1) := by decide +kernel
theorem dX4_bestWith_28 : decode cX4_bestWith 28 = .ok (.invokevirtual 107, 3) := by decide +kernel
theorem dX4_bestWith_31 : decode cX4_bestWith 31 = .ok (.ifCond .ne 80, 3) := by decide +kernel
theorem dX4_bestWith_34 : decode cX4_bestWith 34 = .ok (.aload_n 0, 1) := by decide +kernel
theorem dX4_bestWith_35 : decode cX4_bestWith 35 = .ok (.aload_n 0, 1) := by decide +kernel
theorem dX4_bestWith_36 : decode cX4_bestWith 36 = .ok (.getfield 7, 3) := by decide +kernel
theorem dX4_bestWith_39 : decode cX4_bestWith 39 = .ok (.iconst 1, 1) := by decide +kernel
theorem dX4_bestWith_40 : decode cX4_bestWith 40 = .ok (.iaload, 1) := by decide +kernel
theorem dX4_bestWith_41 : decode cX4_bestWith 41 = .ok (.iload 4, 2) := by decide +kernel
theorem dX4_bestWith_43 : decode cX4_bestWith 43 = .ok (.aload_n 0, 1) := by decide +kernel
theorem dX4_bestWith_44 : decode cX4_bestWith 44 = .ok (.iload_n 1, 1) := by decide +kernel
theorem dX4_bestWith_45 : decode cX4_bestWith 45 = .ok (.invokevirtual 88, 3) := by decide +kernel
theorem dX4_bestWith_48 : decode cX4_bestWith 48 = .ok (.invokevirtual 111, 3) := by decide +kernel
theorem dX4_bestWith_51 : decode cX4_bestWith 51 = .ok (.istore 5, 2) := by decide +kernel
theorem dX4_bestWith_53 : decode cX4_bestWith 53 = .ok (.iload_n 2, 1) := by decide +kernel
theorem dX4_bestWith_54 : decode cX4_bestWith 54 = .ok (.iconst (-1), 1) := by decide +kernel
theorem dX4_bestWith_55 : decode cX4_bestWith 55 = .ok (.if_icmp .eq 25, 3) := by decide +kernel
theorem dX4_bestWith_58 : decode cX4_bestWith 58 = .ok (.iload 5, 2) := by decide +kernel
theorem dX4_bestWith_60 : decode cX4_bestWith 60 = .ok (.iload_n 3, 1) := by decide +kernel
theorem dX4_bestWith_61 : decode cX4_bestWith 61 = .ok (.if_icmp .gt 19, 3) := by decide +kernel
theorem dX4_bestWith_64 : decode cX4_bestWith 64 = .ok (.iload 5, 2) := by decide +kernel
theorem dX4_bestWith_66 : decode cX4_bestWith 66 = .ok (.iload_n 3, 1) := by decide +kernel
theorem dX4_bestWith_67 : decode cX4_bestWith 67 = .ok (.if_icmp .ne 17, 3) := by decide +kernel
theorem dX4_bestWith_70 : decode cX4_bestWith 70 = .ok (.aload_n 0, 1) := by decide +kernel
theorem dX4_bestWith_71 : decode cX4_bestWith 71 = .ok (.iload 4, 2) := by decide +kernel
theorem dX4_bestWith_73 : decode cX4_bestWith 73 = .ok (.iload_n 2, 1) := by decide +kernel
theorem dX4_bestWith_74 : decode cX4_bestWith 74 = .ok (.invokevirtual 114, 3) := by decide +kernel
theorem dX4_bestWith_77 : decode cX4_bestWith 77 = .ok (.ifCond .eq 7, 3) := by decide +kernel
theorem dX4_bestWith_80 : decode cX4_bestWith 80 = .ok (.iconst 1, 1) := by decide +kernel
theorem dX4_bestWith_81 : decode cX4_bestWith 81 = .ok (.goto 4, 3) := by decide +kernel
theorem dX4_bestWith_84 : decode cX4_bestWith 84 = .ok (.iconst 0, 1) := by decide +kernel
theorem dX4_bestWith_85 : decode cX4_bestWith 85 = .ok (.istore 6, 2) := by decide +kernel
theorem dX4_bestWith_87 : decode cX4_bestWith 87 = .ok (.iload 6, 2) := by decide +kernel
theorem dX4_bestWith_89 : decode cX4_bestWith 89 = .ok (.ifCond .eq 8, 3) := by decide +kernel
theorem dX4_bestWith_92 : decode cX4_bestWith 92 = .ok (.iload 4, 2) := by decide +kernel
theorem dX4_bestWith_94 : decode cX4_bestWith 94 = .ok (.goto 4, 3) := by decide +kernel
theorem dX4_bestWith_97 : decode cX4_bestWith 97 = .ok (.iload_n 2, 1) := by decide +kernel
theorem dX4_bestWith_98 : decode cX4_bestWith 98 = .ok (.istore_n 2, 1) := by decide +kernel
theorem dX4_bestWith_99 : decode cX4_bestWith 99 = .ok (.iload 6, 2) := by decide +kernel
theorem dX4_bestWith_101 : decode cX4_bestWith 101 = .ok (.ifCond .eq 8, 3) := by decide +kernel
theorem dX4_bestWith_104 : decode cX4_bestWith 104 = .ok (.iload 5, 2) := by decide +kernel
theorem dX4_bestWith_106 : decode cX4_bestWith 106 = .ok (.goto 4, 3) := by decide +kernel
theorem dX4_bestWith_109 : decode cX4_bestWith 109 = .ok (.iload_n 3, 1) := by decide +kernel
theorem dX4_bestWith_110 : decode cX4_bestWith 110 = .ok (.istore_n 3, 1) := by decide +kernel
theorem dX4_bestWith_111 : decode cX4_bestWith 111 = .ok (.iinc 4 1, 3) := by decide +kernel
theorem dX4_bestWith_114 : decode cX4_bestWith 114 = .ok (.goto (-107), 3) := by decide +kernel
theorem dX4_bestWith_117 : decode cX4_bestWith 117 = .ok (.iload_n 2, 1) := by decide +kernel
theorem dX4_bestWith_118 : decode cX4_bestWith 118 = .ok (.ireturn, 1) := by decide +kernel
theorem dX4_nails_0 : decode cX4_nails 0 = .ok (.aload_n 0, 1) := by decide +kernel
theorem dX4_nails_1 : decode cX4_nails 1 = .ok (.iconst 0, 1) := by decide +kernel
theorem dX4_nails_2 : decode cX4_nails 2 = .ok (.putfield 35, 3) := by decide +kernel
theorem dX4_nails_5 : decode cX4_nails 5 = .ok (.iload_n 1, 1) := by decide +kernel
theorem dX4_nails_6 : decode cX4_nails 6 = .ok (.iconst 4, 1) := by decide +kernel
theorem dX4_nails_7 : decode cX4_nails 7 = .ok (.if_icmp .eq 33, 3) := by decide +kernel
theorem dX4_nails_10 : decode cX4_nails 10 = .ok (.iload_n 1, 1) := by decide +kernel
theorem dX4_nails_11 : decode cX4_nails 11 = .ok (.bipush 6, 2) := by decide +kernel
theorem dX4_nails_13 : decode cX4_nails 13 = .ok (.if_icmp .eq 27, 3) := by decide +kernel
theorem dX4_nails_16 : decode cX4_nails 16 = .ok (.iload_n 1, 1) := by decide +kernel
theorem dX4_nails_17 : decode cX4_nails 17 = .ok (.bipush 8, 2) := by decide +kernel
theorem dX4_nails_19 : decode cX4_nails 19 = .ok (.if_icmp .eq 21, 3) := by decide +kernel
theorem dX4_nails_22 : decode cX4_nails 22 = .ok (.iload_n 1, 1) := by decide +kernel
theorem dX4_nails_23 : decode cX4_nails 23 = .ok (.bipush 12, 2) := by decide +kernel
theorem dX4_nails_25 : decode cX4_nails 25 = .ok (.if_icmp .eq 15, 3) := by decide +kernel
theorem dX4_nails_28 : decode cX4_nails 28 = .ok (.iload_n 1, 1) := by decide +kernel
theorem dX4_nails_29 : decode cX4_nails 29 = .ok (.bipush 24, 2) := by decide +kernel
theorem dX4_nails_31 : decode cX4_nails 31 = .ok (.if_icmp .eq 9, 3) := by decide +kernel
theorem dX4_nails_34 : decode cX4_nails 34 = .ok (.aload_n 0, 1) := by decide +kernel
theorem dX4_nails_35 : decode cX4_nails 35 = .ok (.iconst 1, 1) := by decide +kernel
theorem dX4_nails_36 : decode cX4_nails 36 = .ok (.invokevirtual 118, 3) := by decide +kernel
theorem dX4_nails_39 : decode cX4_nails 39 = .ok (.ireturn, 1) := by decide +kernel
theorem dX4_nails_40 : decode cX4_nails 40 = .ok (.aload_n 0, 1) := by decide +kernel
theorem dX4_nails_41 : decode cX4_nails 41 = .ok (.invokevirtual 121, 3) := by decide +kernel
theorem dX4_nails_44 : decode cX4_nails 44 = .ok (.aload_n 0, 1) := by decide +kernel
theorem dX4_nails_45 : decode cX4_nails 45 = .ok (.getfield 7, 3) := by decide +kernel
theorem dX4_nails_48 : decode cX4_nails 48 = .ok (.iconst 0, 1) := by decide +kernel
theorem dX4_nails_49 : decode cX4_nails 49 = .ok (.iaload, 1) := by decide +kernel
theorem dX4_nails_50 : decode cX4_nails 50 = .ok (.istore_n 2, 1) := by decide +kernel
theorem dX4_nails_51 : decode cX4_nails 51 = .ok (.aload_n 0, 1) := by decide +kernel
theorem dX4_nails_52 : decode cX4_nails 52 = .ok (.getfield 7, 3) := by decide +kernel
theorem dX4_nails_55 : decode cX4_nails 55 = .ok (.iconst 2, 1) := by decide +kernel
theorem dX4_nails_56 : decode cX4_nails 56 = .ok (.iaload, 1) := by decide +kernel
theorem dX4_nails_57 : decode cX4_nails 57 = .ok (.istore_n 3, 1) := by decide +kernel
theorem dX4_nails_58 : decode cX4_nails 58 = .ok (.aload_n 0, 1) := by decide +kernel
theorem dX4_nails_59 : decode cX4_nails 59 = .ok (.getfield 7, 3) := by decide +kernel
theorem dX4_nails_62 : decode cX4_nails 62 = .ok (.bipush 15, 2) := by decide +kernel
theorem dX4_nails_64 : decode cX4_nails 64 = .ok (.iaload, 1) := by decide +kernel
theorem dX4_nails_65 : decode cX4_nails 65 = .ok (.ifCond .le 10, 3) := by decide +kernel
theorem dX4_nails_68 : decode cX4_nails 68 = .ok (.aload_n 0, 1) := by decide +kernel
theorem dX4_nails_69 : decode cX4_nails 69 = .ok (.invokevirtual 124, 3) := by decide +kernel
theorem dX4_nails_72 : decode cX4_nails 72 = .ok (.goto (-14), 3) := by decide +kernel
theorem dX4_nails_75 : decode cX4_nails 75 = .ok (.aload_n 0, 1) := by decide +kernel
theorem dX4_nails_76 : decode cX4_nails 76 = .ok (.getfield 7, 3) := by decide +kernel
theorem dX4_nails_79 : decode cX4_nails 79 = .ok (.iconst 0, 1) := by decide +kernel
theorem dX4_nails_80 : decode cX4_nails 80 = .ok (.iload_n 1, 1) := by decide +kernel
theorem dX4_nails_81 : decode cX4_nails 81 = .ok (.iastore, 1) := by decide +kernel
theorem dX4_nails_82 : decode cX4_nails 82 = .ok (.aload_n 0, 1) := by decide +kernel
theorem dX4_nails_83 : decode cX4_nails 83 = .ok (.getfield 7, 3) := by decide +kernel
theorem dX4_nails_86 : decode cX4_nails 86 = .ok (.iconst 1, 1) := by decide +kernel
theorem dX4_nails_87 : decode cX4_nails 87 = .ok (.iconst 0, 1) := by decide +kernel
theorem dX4_nails_88 : decode cX4_nails 88 = .ok (.iastore, 1) := by decide +kernel
theorem dX4_nails_89 : decode cX4_nails 89 = .ok (.aload_n 0, 1) := by decide +kernel
theorem dX4_nails_90 : decode cX4_nails 90 = .ok (.getfield 7, 3) := by decide +kernel
theorem dX4_nails_93 : decode cX4_nails 93 = .ok (.iconst 2, 1) := by decide +kernel
theorem dX4_nails_94 : decode cX4_nails 94 = .ok (.iload_n 3, 1) := by decide +kernel
theorem dX4_nails_95 : decode cX4_nails 95 = .ok (.iastore, 1) := by decide +kernel
theorem dX4_nails_96 : decode cX4_nails 96 = .ok (.iload_n 2, 1) := by decide +kernel
theorem dX4_nails_97 : decode cX4_nails 97 = .ok (.ireturn, 1) := by decide +kernel
theorem dX4_chordsOf_0 : decode cX4_chordsOf 0 = .ok (.iconst 0, 1) := by decide +kernel
theorem dX4_chordsOf_1 : decode cX4_chordsOf 1 = .ok (.istore_n 2, 1) := by decide +kernel
theorem dX4_chordsOf_2 : decode cX4_chordsOf 2 = .ok (.iconst 0, 1) := by decide +kernel
theorem dX4_chordsOf_3 : decode cX4_chordsOf 3 = .ok (.istore_n 3, 1) := by decide +kernel
theorem dX4_chordsOf_4 : decode cX4_chordsOf 4 = .ok (.iload_n 3, 1) := by decide +kernel
theorem dX4_chordsOf_5 : decode cX4_chordsOf 5 = .ok (.aload_n 0, 1) := by decide +kernel
theorem dX4_chordsOf_6 : decode cX4_chordsOf 6 = .ok (.getfield 7, 3) := by decide +kernel
theorem dX4_chordsOf_9 : decode cX4_chordsOf 9 = .ok (.bipush 15, 2) := by decide +kernel
theorem dX4_chordsOf_11 : decode cX4_chordsOf 11 = .ok (.iaload, 1) := by decide +kernel
theorem dX4_chordsOf_12 : decode cX4_chordsOf 12 = .ok (.if_icmp .ge 27, 3) := by decide +kernel
theorem dX4_chordsOf_15 : decode cX4_chordsOf 15 = .ok (.iload_n 2, 1) := by decide +kernel
theorem dX4_chordsOf_16 : decode cX4_chordsOf 16 = .ok (.aload_n 0, 1) := by decide +kernel
theorem dX4_chordsOf_17 : decode cX4_chordsOf 17 = .ok (.iload_n 3, 1) := by decide +kernel
theorem dX4_chordsOf_18 : decode cX4_chordsOf 18 = .ok (.iconst 2, 1) := by decide +kernel
theorem dX4_chordsOf_19 : decode cX4_chordsOf 19 = .ok (.invokevirtual 78, 3) := by decide +kernel
theorem dX4_chordsOf_22 : decode cX4_chordsOf 22 = .ok (.iload_n 1, 1) := by decide +kernel
theorem dX4_chordsOf_23 : decode cX4_chordsOf 23 = .ok (.if_icmp .ne 7, 3) := by decide +kernel
theorem dX4_chordsOf_26 : decode cX4_chordsOf 26 = .ok (.iconst 1, 1) := by decide +kernel
theorem dX4_chordsOf_27 : decode cX4_chordsOf 27 = .ok (.goto 4, 3) := by decide +kernel
theorem dX4_chordsOf_30 : decode cX4_chordsOf 30 = .ok (.iconst 0, 1) := by decide +kernel
theorem dX4_chordsOf_31 : decode cX4_chordsOf 31 = .ok (.iadd, 1) := by decide +kernel
theorem dX4_chordsOf_32 : decode cX4_chordsOf 32 = .ok (.istore_n 2, 1) := by decide +kernel
theorem dX4_chordsOf_33 : decode cX4_chordsOf 33 = .ok (.iinc 3 1, 3) := by decide +kernel
theorem dX4_chordsOf_36 : decode cX4_chordsOf 36 = .ok (.goto (-32), 3) := by decide +kernel
theorem dX4_chordsOf_39 : decode cX4_chordsOf 39 = .ok (.iload_n 2, 1) := by decide +kernel
theorem dX4_chordsOf_40 : decode cX4_chordsOf 40 = .ok (.ireturn, 1) := by decide +kernel
theorem dX4_spool_0 : decode cX4_spool 0 = .ok (.aload_n 0, 1) := by decide +kernel
theorem dX4_spool_1 : decode cX4_spool 1 = .ok (.iconst 0, 1) := by decide +kernel
theorem dX4_spool_2 : decode cX4_spool 2 = .ok (.putfield 35, 3) := by decide +kernel
theorem dX4_spool_5 : decode cX4_spool 5 = .ok (.iload_n 1, 1) := by decide +kernel
theorem dX4_spool_6 : decode cX4_spool 6 = .ok (.invokestatic 127, 3) := by decide +kernel
theorem dX4_spool_9 : decode cX4_spool 9 = .ok (.ifCond .ne 9, 3) := by decide +kernel
theorem dX4_spool_12 : decode cX4_spool 12 = .ok (.aload_n 0, 1) := by decide +kernel
theorem dX4_spool_13 : decode cX4_spool 13 = .ok (.iconst 1, 1) := by decide +kernel
theorem dX4_spool_14 : decode cX4_spool 14 = .ok (.invokevirtual 118, 3) := by decide +kernel
theorem dX4_spool_17 : decode cX4_spool 17 = .ok (.ireturn, 1) := by decide +kernel
theorem dX4_spool_18 : decode cX4_spool 18 = .ok (.iload_n 2, 1) := by decide +kernel
theorem dX4_spool_19 : decode cX4_spool 19 = .ok (.iconst 1, 1) := by decide +kernel
theorem dX4_spool_20 : decode cX4_spool 20 = .ok (.bipush 9, 2) := by decide +kernel
theorem dX4_spool_22 : decode cX4_spool 22 = .ok (.invokestatic 42, 3) := by decide +kernel
theorem dX4_spool_25 : decode cX4_spool 25 = .ok (.ifCond .eq 14, 3) := by decide +kernel
theorem dX4_spool_28 : decode cX4_spool 28 = .ok (.iload_n 3, 1) := by decide +kernel
theorem dX4_spool_29 : decode cX4_spool 29 = .ok (.iconst 0, 1) := by decide +kernel
theorem dX4_spool_30 : decode cX4_spool 30 = .ok (.sipush 9999, 3) := by decide +kernel
theorem dX4_spool_33 : decode cX4_spool 33 = .ok (.invokestatic 42, 3) := by decide +kernel
theorem dX4_spool_36 : decode cX4_spool 36 = .ok (.ifCond .ne 9, 3) := by decide +kernel
theorem dX4_spool_39 : decode cX4_spool 39 = .ok (.aload_n 0, 1) := by decide +kernel
theorem dX4_spool_40 : decode cX4_spool 40 = .ok (.iconst 2, 1) := by decide +kernel
theorem dX4_spool_41 : decode cX4_spool 41 = .ok (.invokevirtual 118, 3) := by decide +kernel
theorem dX4_spool_44 : decode cX4_spool 44 = .ok (.ireturn, 1) := by decide +kernel
theorem dX4_spool_45 : decode cX4_spool 45 = .ok (.iload_n 1, 1) := by decide +kernel
theorem dX4_spool_46 : decode cX4_spool 46 = .ok (.aload_n 0, 1) := by decide +kernel
theorem dX4_spool_47 : decode cX4_spool 47 = .ok (.getfield 7, 3) := by decide +kernel
theorem dX4_spool_50 : decode cX4_spool 50 = .ok (.iconst 2, 1) := by decide +kernel
theorem dX4_spool_51 : decode cX4_spool 51 = .ok (.iaload, 1) := by decide +kernel
theorem dX4_spool_52 : decode cX4_spool 52 = .ok (.if_icmp .eq 11, 3) := by decide +kernel
theorem dX4_spool_55 : decode cX4_spool 55 = .ok (.aload_n 0, 1) := by decide +kernel
theorem dX4_spool_56 : decode cX4_spool 56 = .ok (.iload_n 1, 1) := by decide +kernel
theorem dX4_spool_57 : decode cX4_spool 57 = .ok (.invokevirtual 131, 3) := by decide +kernel
theorem dX4_spool_60 : decode cX4_spool 60 = .ok (.ifCond .le 9, 3) := by decide +kernel
theorem dX4_spool_63 : decode cX4_spool 63 = .ok (.aload_n 0, 1) := by decide +kernel
theorem dX4_spool_64 : decode cX4_spool 64 = .ok (.iconst 3, 1) := by decide +kernel
theorem dX4_spool_65 : decode cX4_spool 65 = .ok (.invokevirtual 118, 3) := by decide +kernel
theorem dX4_spool_68 : decode cX4_spool 68 = .ok (.ireturn, 1) := by decide +kernel
theorem dX4_spool_69 : decode cX4_spool 69 = .ok (.aload_n 0, 1) := by decide +kernel
theorem dX4_spool_70 : decode cX4_spool 70 = .ok (.invokevirtual 121, 3) := by decide +kernel
theorem dX4_spool_73 : decode cX4_spool 73 = .ok (.aload_n 0, 1) := by decide +kernel
theorem dX4_spool_74 : decode cX4_spool 74 = .ok (.iload_n 1, 1) := by decide +kernel
theorem dX4_spool_75 : decode cX4_spool 75 = .ok (.invokevirtual 101, 3) := by decide +kernel
theorem dX4_spool_78 : decode cX4_spool 78 = .ok (.istore 4, 2) := by decide +kernel
theorem dX4_spool_80 : decode cX4_spool 80 = .ok (.aload_n 0, 1) := by decide +kernel
theorem dX4_spool_81 : decode cX4_spool 81 = .ok (.getfield 7, 3) := by decide +kernel
theorem dX4_spool_84 : decode cX4_spool 84 = .ok (.bipush 9, 2) := by decide +kernel
theorem dX4_spool_86 : decode cX4_spool 86 = .ok (.iconst 2, 1) := by decide +kernel
theorem dX4_spool_87 : decode cX4_spool 87 = .ok (.iload_n 1, 1) := by decide +kernel
theorem dX4_spool_88 : decode cX4_spool 88 = .ok (.imul, 1) := by decide +kernel
theorem dX4_spool_89 : decode cX4_spool 89 = .ok (.iadd, 1) := by decide +kernel
theorem dX4_spool_90 : decode cX4_spool 90 = .ok (.iload_n 2, 1) := by decide +kernel
theorem dX4_spool_91 : decode cX4_spool 91 = .ok (.iastore, 1) := by decide +kernel
theorem dX4_spool_92 : decode cX4_spool 92 = .ok (.aload_n 0, 1) := by decide +kernel
theorem dX4_spool_93 : decode cX4_spool 93 = .ok (.getfield 7, 3) := by decide +kernel
theorem dX4_spool_96 : decode cX4_spool 96 = .ok (.bipush 9, 2) := by decide +kernel
theorem dX4_spool_98 : decode cX4_spool 98 = .ok (.iconst 2, 1) := by decide +kernel
theorem dX4_spool_99 : decode cX4_spool 99 = .ok (.iload_n 1, 1) := by decide +kernel
theorem dX4_spool_100 : decode cX4_spool 100 = .ok (.imul, 1) := by decide +kernel
theorem dX4_spool_101 : decode cX4_spool 101 = .ok (.iadd, 1) := by decide +kernel
theorem dX4_spool_102 : decode cX4_spool 102 = .ok (.iconst 1, 1) := by decide +kernel
theorem dX4_spool_103 : decode cX4_spool 103 = .ok (.iadd, 1) := by decide +kernel
theorem dX4_spool_104 : decode cX4_spool 104 = .ok (.iload_n 3, 1) := by decide +kernel
theorem dX4_spool_105 : decode cX4_spool 105 = .ok (.iastore, 1) := by decide +kernel
theorem dX4_spool_106 : decode cX4_spool 106 = .ok (.iload 4, 2) := by decide +kernel
theorem dX4_spool_108 : decode cX4_spool 108 = .ok (.ireturn, 1) := by decide +kernel
theorem dX4_knot_0 : decode cX4_knot 0 = .ok (.aload_n 0, 1) := by decide +kernel
theorem dX4_knot_1 : decode cX4_knot 1 = .ok (.iconst 0, 1) := by decide +kernel
theorem dX4_knot_2 : decode cX4_knot 2 = .ok (.putfield 35, 3) := by decide +kernel
theorem dX4_knot_5 : decode cX4_knot 5 = .ok (.iload_n 1, 1) := by decide +kernel
theorem dX4_knot_6 : decode cX4_knot 6 = .ok (.invokestatic 127, 3) := by decide +kernel
theorem dX4_knot_9 : decode cX4_knot 9 = .ok (.ifCond .ne 9, 3) := by decide +kernel
theorem dX4_knot_12 : decode cX4_knot 12 = .ok (.aload_n 0, 1) := by decide +kernel
theorem dX4_knot_13 : decode cX4_knot 13 = .ok (.iconst 1, 1) := by decide +kernel
theorem dX4_knot_14 : decode cX4_knot 14 = .ok (.invokevirtual 118, 3) := by decide +kernel
theorem dX4_knot_17 : decode cX4_knot 17 = .ok (.ireturn, 1) := by decide +kernel
theorem dX4_knot_18 : decode cX4_knot 18 = .ok (.iload_n 1, 1) := by decide +kernel
theorem dX4_knot_19 : decode cX4_knot 19 = .ok (.aload_n 0, 1) := by decide +kernel
theorem dX4_knot_20 : decode cX4_knot 20 = .ok (.getfield 7, 3) := by decide +kernel
theorem dX4_knot_23 : decode cX4_knot 23 = .ok (.iconst 2, 1) := by decide +kernel
theorem dX4_knot_24 : decode cX4_knot 24 = .ok (.iaload, 1) := by decide +kernel
theorem dX4_knot_25 : decode cX4_knot 25 = .ok (.if_icmp .ne 9, 3) := by decide +kernel
theorem dX4_knot_28 : decode cX4_knot 28 = .ok (.aload_n 0, 1) := by decide +kernel
theorem dX4_knot_29 : decode cX4_knot 29 = .ok (.iconst 2, 1) := by decide +kernel
theorem dX4_knot_30 : decode cX4_knot 30 = .ok (.invokevirtual 118, 3) := by decide +kernel
theorem dX4_knot_33 : decode cX4_knot 33 = .ok (.ireturn, 1) := by decide +kernel
theorem dX4_knot_34 : decode cX4_knot 34 = .ok (.aload_n 0, 1) := by decide +kernel
theorem dX4_knot_35 : decode cX4_knot 35 = .ok (.invokevirtual 121, 3) := by decide +kernel
theorem dX4_knot_38 : decode cX4_knot 38 = .ok (.aload_n 0, 1) := by decide +kernel
theorem dX4_knot_39 : decode cX4_knot 39 = .ok (.getfield 7, 3) := by decide +kernel
theorem dX4_knot_42 : decode cX4_knot 42 = .ok (.iconst 2, 1) := by decide +kernel
theorem dX4_knot_43 : decode cX4_knot 43 = .ok (.iload_n 1, 1) := by decide +kernel
theorem dX4_knot_44 : decode cX4_knot 44 = .ok (.iastore, 1) := by decide +kernel
theorem dX4_knot_45 : decode cX4_knot 45 = .ok (.aload_n 0, 1) := by decide +kernel
theorem dX4_knot_46 : decode cX4_knot 46 = .ok (.getfield 7, 3) := by decide +kernel
theorem dX4_knot_49 : decode cX4_knot 49 = .ok (.iconst 5, 1) := by decide +kernel
theorem dX4_knot_50 : decode cX4_knot 50 = .ok (.dup2, 1) := by decide +kernel
theorem dX4_knot_51 : decode cX4_knot 51 = .ok (.iaload, 1) := by decide +kernel
theorem dX4_knot_52 : decode cX4_knot 52 = .ok (.iconst 1, 1) := by decide +kernel
theorem dX4_knot_53 : decode cX4_knot 53 = .ok (.iadd, 1) := by decide +kernel
theorem dX4_knot_54 : decode cX4_knot 54 = .ok (.iastore, 1) := by decide +kernel
theorem dX4_knot_55 : decode cX4_knot 55 = .ok (.aload_n 0, 1) := by decide +kernel
theorem dX4_knot_56 : decode cX4_knot 56 = .ok (.getfield 7, 3) := by decide +kernel
theorem dX4_knot_59 : decode cX4_knot 59 = .ok (.iconst 5, 1) := by decide +kernel
theorem dX4_knot_60 : decode cX4_knot 60 = .ok (.iaload, 1) := by decide +kernel
theorem dX4_knot_61 : decode cX4_knot 61 = .ok (.ireturn, 1) := by decide +kernel
theorem dX4_set_0 : decode cX4_set 0 = .ok (.aload_n 0, 1) := by decide +kernel
theorem dX4_set_1 : decode cX4_set 1 = .ok (.iconst 0, 1) := by decide +kernel
theorem dX4_set_2 : decode cX4_set 2 = .ok (.putfield 35, 3) := by decide +kernel
theorem dX4_set_5 : decode cX4_set 5 = .ok (.iload_n 1, 1) := by decide +kernel
theorem dX4_set_6 : decode cX4_set 6 = .ok (.iconst 0, 1) := by decide +kernel
theorem dX4_set_7 : decode cX4_set 7 = .ok (.iconst 2, 1) := by decide +kernel
theorem dX4_set_8 : decode cX4_set 8 = .ok (.invokestatic 42, 3) := by decide +kernel
theorem dX4_set_11 : decode cX4_set 11 = .ok (.ifCond .ne 9, 3) := by decide +kernel
theorem dX4_set_14 : decode cX4_set 14 = .ok (.aload_n 0, 1) := by decide +kernel
theorem dX4_set_15 : decode cX4_set 15 = .ok (.iconst 1, 1) := by decide +kernel
theorem dX4_set_16 : decode cX4_set 16 = .ok (.invokevirtual 118, 3) := by decide +kernel
theorem dX4_set_19 : decode cX4_set 19 = .ok (.ireturn, 1) := by decide +kernel
theorem dX4_set_20 : decode cX4_set 20 = .ok (.iload_n 2, 1) := by decide +kernel
theorem dX4_set_21 : decode cX4_set 21 = .ok (.iconst 1, 1) := by decide +kernel
theorem dX4_set_22 : decode cX4_set 22 = .ok (.iload_n 1, 1) := by decide +kernel
theorem dX4_set_23 : decode cX4_set 23 = .ok (.ifCond .ne 8, 3) := by decide +kernel
theorem dX4_set_26 : decode cX4_set 26 = .ok (.bipush 6, 2) := by decide +kernel
theorem dX4_set_28 : decode cX4_set 28 = .ok (.goto 5, 3) := by decide +kernel
theorem dX4_set_31 : decode cX4_set 31 = .ok (.bipush 9, 2) := by decide +kernel
theorem dX4_set_33 : decode cX4_set 33 = .ok (.invokestatic 42, 3) := by decide +kernel
theorem dX4_set_36 : decode cX4_set 36 = .ok (.ifCond .ne 9, 3) := by decide +kernel
theorem dX4_set_39 : decode cX4_set 39 = .ok (.aload_n 0, 1) := by decide +kernel
theorem dX4_set_40 : decode cX4_set 40 = .ok (.iconst 2, 1) := by decide +kernel
theorem dX4_set_41 : decode cX4_set 41 = .ok (.invokevirtual 118, 3) := by decide +kernel
theorem dX4_set_44 : decode cX4_set 44 = .ok (.ireturn, 1) := by decide +kernel
theorem dX4_set_45 : decode cX4_set 45 = .ok (.aload_n 0, 1) := by decide +kernel
theorem dX4_set_46 : decode cX4_set 46 = .ok (.invokevirtual 121, 3) := by decide +kernel
theorem dX4_set_49 : decode cX4_set 49 = .ok (.aload_n 0, 1) := by decide +kernel
theorem dX4_set_50 : decode cX4_set 50 = .ok (.getfield 7, 3) := by decide +kernel
theorem dX4_set_53 : decode cX4_set 53 = .ok (.bipush 6, 2) := by decide +kernel
theorem dX4_set_55 : decode cX4_set 55 = .ok (.iload_n 1, 1) := by decide +kernel
theorem dX4_set_56 : decode cX4_set 56 = .ok (.iadd, 1) := by decide +kernel
theorem dX4_set_57 : decode cX4_set 57 = .ok (.iaload, 1) := by decide +kernel
theorem dX4_set_58 : decode cX4_set 58 = .ok (.istore_n 3, 1) := by decide +kernel
theorem dX4_set_59 : decode cX4_set 59 = .ok (.aload_n 0, 1) := by decide +kernel
theorem dX4_set_60 : decode cX4_set 60 = .ok (.getfield 7, 3) := by decide +kernel
theorem dX4_set_63 : decode cX4_set 63 = .ok (.bipush 6, 2) := by decide +kernel
theorem dX4_set_65 : decode cX4_set 65 = .ok (.iload_n 1, 1) := by decide +kernel
theorem dX4_set_66 : decode cX4_set 66 = .ok (.iadd, 1) := by decide +kernel
theorem dX4_set_67 : decode cX4_set 67 = .ok (.iload_n 2, 1) := by decide +kernel
theorem dX4_set_68 : decode cX4_set 68 = .ok (.iastore, 1) := by decide +kernel
theorem dX4_set_69 : decode cX4_set 69 = .ok (.iload_n 3, 1) := by decide +kernel
theorem dX4_set_70 : decode cX4_set 70 = .ok (.ireturn, 1) := by decide +kernel
theorem dX4_wind_0 : decode cX4_wind 0 = .ok (.aload_n 0, 1) := by decide +kernel
theorem dX4_wind_1 : decode cX4_wind 1 = .ok (.iconst 0, 1) := by decide +kernel
theorem dX4_wind_2 : decode cX4_wind 2 = .ok (.putfield 35, 3) := by decide +kernel
theorem dX4_wind_5 : decode cX4_wind 5 = .ok (.aload_n 0, 1) := by decide +kernel
theorem dX4_wind_6 : decode cX4_wind 6 = .ok (.iload_n 1, 1) := by decide +kernel
theorem dX4_wind_7 : decode cX4_wind 7 = .ok (.invokevirtual 134, 3) := by decide +kernel
theorem dX4_wind_10 : decode cX4_wind 10 = .ok (.ifCond .ne 9, 3) := by decide +kernel
theorem dX4_wind_13 : decode cX4_wind 13 = .ok (.aload_n 0, 1) := by decide +kernel
theorem dX4_wind_14 : decode cX4_wind 14 = .ok (.iconst 1, 1) := by decide +kernel
theorem dX4_wind_15 : decode cX4_wind 15 = .ok (.invokevirtual 118, 3) := by decide +kernel
theorem dX4_wind_18 : decode cX4_wind 18 = .ok (.ireturn, 1) := by decide +kernel
theorem dX4_wind_19 : decode cX4_wind 19 = .ok (.aload_n 0, 1) := by decide +kernel
theorem dX4_wind_20 : decode cX4_wind 20 = .ok (.getfield 7, 3) := by decide +kernel
theorem dX4_wind_23 : decode cX4_wind 23 = .ok (.bipush 15, 2) := by decide +kernel
theorem dX4_wind_25 : decode cX4_wind 25 = .ok (.iaload, 1) := by decide +kernel
theorem dX4_wind_26 : decode cX4_wind 26 = .ok (.sipush 200, 3) := by decide +kernel
theorem dX4_wind_29 : decode cX4_wind 29 = .ok (.if_icmp .ne 9, 3) := by decide +kernel
theorem dX4_wind_32 : decode cX4_wind 32 = .ok (.aload_n 0, 1) := by decide +kernel
theorem dX4_wind_33 : decode cX4_wind 33 = .ok (.iconst 2, 1) := by decide +kernel
theorem dX4_wind_34 : decode cX4_wind 34 = .ok (.invokevirtual 118, 3) := by decide +kernel
theorem dX4_wind_37 : decode cX4_wind 37 = .ok (.ireturn, 1) := by decide +kernel
theorem dX4_wind_38 : decode cX4_wind 38 = .ok (.aload_n 0, 1) := by decide +kernel
theorem dX4_wind_39 : decode cX4_wind 39 = .ok (.invokevirtual 121, 3) := by decide +kernel
theorem dX4_wind_42 : decode cX4_wind 42 = .ok (.aload_n 0, 1) := by decide +kernel
theorem dX4_wind_43 : decode cX4_wind 43 = .ok (.aload_n 0, 1) := by decide +kernel
theorem dX4_wind_44 : decode cX4_wind 44 = .ok (.getfield 7, 3) := by decide +kernel
theorem dX4_wind_47 : decode cX4_wind 47 = .ok (.iconst 1, 1) := by decide +kernel
theorem dX4_wind_48 : decode cX4_wind 48 = .ok (.iaload, 1) := by decide +kernel
theorem dX4_wind_49 : decode cX4_wind 49 = .ok (.iload_n 1, 1) := by decide +kernel
theorem dX4_wind_50 : decode cX4_wind 50 = .ok (.aload_n 0, 1) := by decide +kernel
theorem dX4_wind_51 : decode cX4_wind 51 = .ok (.getfield 7, 3) := by decide +kernel
theorem dX4_wind_54 : decode cX4_wind 54 = .ok (.iconst 2, 1) := by decide +kernel
theorem dX4_wind_55 : decode cX4_wind 55 = .ok (.iaload, 1) := by decide +kernel
theorem dX4_wind_56 : decode cX4_wind 56 = .ok (.invokevirtual 107, 3) := by decide +kernel
theorem dX4_wind_59 : decode cX4_wind 59 = .ok (.istore_n 2, 1) := by decide +kernel
theorem dX4_wind_60 : decode cX4_wind 60 = .ok (.iload_n 2, 1) := by decide +kernel
theorem dX4_wind_61 : decode cX4_wind 61 = .ok (.ifCond .eq 15, 3) := by decide +kernel
theorem dX4_wind_64 : decode cX4_wind 64 = .ok (.aload_n 0, 1) := by decide +kernel
theorem dX4_wind_65 : decode cX4_wind 65 = .ok (.getfield 7, 3) := by decide +kernel
theorem dX4_wind_68 : decode cX4_wind 68 = .ok (.iconst 4, 1) := by decide +kernel
theorem dX4_wind_69 : decode cX4_wind 69 = .ok (.dup2, 1) := by decide +kernel
theorem dX4_wind_70 : decode cX4_wind 70 = .ok (.iaload, 1) := by decide +kernel
theorem dX4_wind_71 : decode cX4_wind 71 = .ok (.iconst 1, 1) := by decide +kernel
theorem dX4_wind_72 : decode cX4_wind 72 = .ok (.iadd, 1) := by decide +kernel
theorem dX4_wind_73 : decode cX4_wind 73 = .ok (.iastore, 1) := by decide +kernel
theorem dX4_wind_74 : decode cX4_wind 74 = .ok (.iload_n 2, 1) := by decide +kernel
theorem dX4_wind_75 : decode cX4_wind 75 = .ok (.ireturn, 1) := by decide +kernel
theorem dX4_wind_76 : decode cX4_wind 76 = .ok (.aload_n 0, 1) := by decide +kernel
theorem dX4_wind_77 : decode cX4_wind 77 = .ok (.iload_n 1, 1) := by decide +kernel
theorem dX4_wind_78 : decode cX4_wind 78 = .ok (.invokevirtual 137, 3) := by decide +kernel
theorem dX4_wind_81 : decode cX4_wind 81 = .ok (.aload_n 0, 1) := by decide +kernel
theorem dX4_wind_82 : decode cX4_wind 82 = .ok (.getfield 7, 3) := by decide +kernel
theorem dX4_wind_85 : decode cX4_wind 85 = .ok (.iconst 3, 1) := by decide +kernel
theorem dX4_wind_86 : decode cX4_wind 86 = .ok (.dup2, 1) := by decide +kernel
theorem dX4_wind_87 : decode cX4_wind 87 = .ok (.iaload, 1) := by decide +kernel
theorem dX4_wind_88 : decode cX4_wind 88 = .ok (.iconst 1, 1) := by decide +kernel
theorem dX4_wind_89 : decode cX4_wind 89 = .ok (.iadd, 1) := by decide +kernel
theorem dX4_wind_90 : decode cX4_wind 90 = .ok (.iastore, 1) := by decide +kernel
theorem dX4_wind_91 : decode cX4_wind 91 = .ok (.iconst 0, 1) := by decide +kernel
theorem dX4_wind_92 : decode cX4_wind 92 = .ok (.ireturn, 1) := by decide +kernel
theorem dX4_unwind_0 : decode cX4_unwind 0 = .ok (.aload_n 0, 1) := by decide +kernel
theorem dX4_unwind_1 : decode cX4_unwind 1 = .ok (.iconst 0, 1) := by decide +kernel
theorem dX4_unwind_2 : decode cX4_unwind 2 = .ok (.putfield 35, 3) := by decide +kernel
theorem dX4_unwind_5 : decode cX4_unwind 5 = .ok (.aload_n 0, 1) := by decide +kernel
theorem dX4_unwind_6 : decode cX4_unwind 6 = .ok (.getfield 7, 3) := by decide +kernel
theorem dX4_unwind_9 : decode cX4_unwind 9 = .ok (.bipush 15, 2) := by decide +kernel
theorem dX4_unwind_11 : decode cX4_unwind 11 = .ok (.iaload, 1) := by decide +kernel
theorem dX4_unwind_12 : decode cX4_unwind 12 = .ok (.ifCond .ne 9, 3) := by decide +kernel
theorem dX4_unwind_15 : decode cX4_unwind 15 = .ok (.aload_n 0, 1) := by decide +kernel
theorem dX4_unwind_16 : decode cX4_unwind 16 = .ok (.iconst 1, 1) := by decide +kernel
theorem dX4_unwind_17 : decode cX4_unwind 17 = .ok (.invokevirtual 118, 3) := by decide +kernel
theorem dX4_unwind_20 : decode cX4_unwind 20 = .ok (.ireturn, 1) := by decide +kernel
theorem dX4_unwind_21 : decode cX4_unwind 21 = .ok (.aload_n 0, 1) := by decide +kernel
theorem dX4_unwind_22 : decode cX4_unwind 22 = .ok (.invokevirtual 121, 3) := by decide +kernel
theorem dX4_unwind_25 : decode cX4_unwind 25 = .ok (.aload_n 0, 1) := by decide +kernel
theorem dX4_unwind_26 : decode cX4_unwind 26 = .ok (.invokevirtual 124, 3) := by decide +kernel
theorem dX4_unwind_29 : decode cX4_unwind 29 = .ok (.aload_n 0, 1) := by decide +kernel
theorem dX4_unwind_30 : decode cX4_unwind 30 = .ok (.getfield 7, 3) := by decide +kernel
theorem dX4_unwind_33 : decode cX4_unwind 33 = .ok (.iconst 1, 1) := by decide +kernel
theorem dX4_unwind_34 : decode cX4_unwind 34 = .ok (.iaload, 1) := by decide +kernel
theorem dX4_unwind_35 : decode cX4_unwind 35 = .ok (.ireturn, 1) := by decide +kernel
theorem dX4_hasGain_0 : decode cX4_hasGain 0 = .ok (.iload_n 1, 1) := by decide +kernel
theorem dX4_hasGain_1 : decode cX4_hasGain 1 = .ok (.iconst (-1), 1) := by decide +kernel
theorem dX4_hasGain_2 : decode cX4_hasGain 2 = .ok (.if_icmp .eq 31, 3) := by decide +kernel
theorem dX4_hasGain_5 : decode cX4_hasGain 5 = .ok (.aload_n 0, 1) := by decide +kernel
theorem dX4_hasGain_6 : decode cX4_hasGain 6 = .ok (.aload_n 0, 1) := by decide +kernel
theorem dX4_hasGain_7 : decode cX4_hasGain 7 = .ok (.getfield 7, 3) := by decide +kernel
theorem dX4_hasGain_10 : decode cX4_hasGain 10 = .ok (.iconst 1, 1) := by decide +kernel
theorem dX4_hasGain_11 : decode cX4_hasGain 11 = .ok (.iaload, 1) := by decide +kernel
theorem dX4_hasGain_12 : decode cX4_hasGain 12 = .ok (.iload_n 1, 1) := by decide +kernel
theorem dX4_hasGain_13 : decode cX4_hasGain 13 = .ok (.aload_n 0, 1) := by decide +kernel
theorem dX4_hasGain_14 : decode cX4_hasGain 14 = .ok (.aload_n 0, 1) := by decide +kernel
theorem dX4_hasGain_15 : decode cX4_hasGain 15 = .ok (.getfield 7, 3) := by decide +kernel
theorem dX4_hasGain_18 : decode cX4_hasGain 18 = .ok (.iconst 2, 1) := by decide +kernel
theorem dX4_hasGain_19 : decode cX4_hasGain 19 = .ok (.iaload, 1) := by decide +kernel
theorem dX4_hasGain_20 : decode cX4_hasGain 20 = .ok (.invokevirtual 88, 3) := by decide +kernel
theorem dX4_hasGain_23 : decode cX4_hasGain 23 = .ok (.invokevirtual 111, 3) := by decide +kernel
theorem dX4_hasGain_26 : decode cX4_hasGain 26 = .ok (.ifCond .le 7, 3) := by decide +kernel
theorem dX4_hasGain_29 : decode cX4_hasGain 29 = .ok (.iconst 1, 1) := by decide +kernel
theorem dX4_hasGain_30 : decode cX4_hasGain 30 = .ok (.goto 4, 3) := by decide +kernel
theorem dX4_hasGain_33 : decode cX4_hasGain 33 = .ok (.iconst 0, 1) := by decide +kernel
theorem dX4_hasGain_34 : decode cX4_hasGain 34 = .ok (.ireturn, 1) := by decide +kernel
theorem dX4_windBest_0 : decode cX4_windBest 0 = .ok (.aload_n 0, 1) := by decide +kernel
theorem dX4_windBest_1 : decode cX4_windBest 1 = .ok (.iconst 0, 1) := by decide +kernel
theorem dX4_windBest_2 : decode cX4_windBest 2 = .ok (.putfield 35, 3) := by decide +kernel
theorem dX4_windBest_5 : decode cX4_windBest 5 = .ok (.iload_n 1, 1) := by decide +kernel
theorem dX4_windBest_6 : decode cX4_windBest 6 = .ok (.iconst 1, 1) := by decide +kernel
theorem dX4_windBest_7 : decode cX4_windBest 7 = .ok (.bipush 50, 2) := by decide +kernel
theorem dX4_windBest_9 : decode cX4_windBest 9 = .ok (.invokestatic 42, 3) := by decide +kernel
theorem dX4_windBest_12 : decode cX4_windBest 12 = .ok (.ifCond .ne 9, 3) := by decide +kernel
theorem dX4_windBest_15 : decode cX4_windBest 15 = .ok (.aload_n 0, 1) := by decide +kernel
theorem dX4_windBest_16 : decode cX4_windBest 16 = .ok (.iconst 1, 1) := by decide +kernel
theorem dX4_windBest_17 : decode cX4_windBest 17 = .ok (.invokevirtual 118, 3) := by decide +kernel
theorem dX4_windBest_20 : decode cX4_windBest 20 = .ok (.ireturn, 1) := by decide +kernel
theorem dX4_windBest_21 : decode cX4_windBest 21 = .ok (.aload_n 0, 1) := by decide +kernel
theorem dX4_windBest_22 : decode cX4_windBest 22 = .ok (.invokevirtual 121, 3) := by decide +kernel
theorem dX4_windBest_25 : decode cX4_windBest 25 = .ok (.iconst 0, 1) := by decide +kernel
theorem dX4_windBest_26 : decode cX4_windBest 26 = .ok (.istore_n 2, 1) := by decide +kernel
theorem dX4_windBest_27 : decode cX4_windBest 27 = .ok (.aload_n 0, 1) := by decide +kernel
theorem dX4_windBest_28 : decode cX4_windBest 28 = .ok (.aload_n 0, 1) := by decide +kernel
theorem dX4_windBest_29 : decode cX4_windBest 29 = .ok (.getfield 7, 3) := by decide +kernel
theorem dX4_windBest_32 : decode cX4_windBest 32 = .ok (.iconst 2, 1) := by decide +kernel
theorem dX4_windBest_33 : decode cX4_windBest 33 = .ok (.iaload, 1) := by decide +kernel
theorem dX4_windBest_34 : decode cX4_windBest 34 = .ok (.invokevirtual 141, 3) := by decide +kernel
theorem dX4_windBest_37 : decode cX4_windBest 37 = .ok (.istore_n 3, 1) := by decide +kernel
theorem dX4_windBest_38 : decode cX4_windBest 38 = .ok (.iload_n 2, 1) := by decide +kernel
theorem dX4_windBest_39 : decode cX4_windBest 39 = .ok (.iload_n 1, 1) := by decide +kernel
theorem dX4_windBest_40 : decode cX4_windBest 40 = .ok (.if_icmp .ge 56, 3) := by decide +kernel
theorem dX4_windBest_43 : decode cX4_windBest 43 = .ok (.aload_n 0, 1) := by decide +kernel
theorem dX4_windBest_44 : decode cX4_windBest 44 = .ok (.getfield 7, 3) := by decide +kernel
theorem dX4_windBest_47 : decode cX4_windBest 47 = .ok (.bipush 15, 2) := by decide +kernel
theorem dX4_windBest_49 : decode cX4_windBest 49 = .ok (.iaload, 1) := by decide +kernel
theorem dX4_windBest_50 : decode cX4_windBest 50 = .ok (.sipush 200, 3) := by decide +kernel
theorem dX4_windBest_53 : decode cX4_windBest 53 = .ok (.if_icmp .ge 43, 3) := by decide +kernel
theorem dX4_windBest_56 : decode cX4_windBest 56 = .ok (.aload_n 0, 1) := by decide +kernel
theorem dX4_windBest_57 : decode cX4_windBest 57 = .ok (.iload_n 3, 1) := by decide +kernel
theorem dX4_windBest_58 : decode cX4_windBest 58 = .ok (.invokevirtual 144, 3) := by decide +kernel
theorem dX4_windBest_61 : decode cX4_windBest 61 = .ok (.ifCond .eq 35, 3) := by decide +kernel
theorem dX4_windBest_64 : decode cX4_windBest 64 = .ok (.aload_n 0, 1) := by decide +kernel
theorem dX4_windBest_65 : decode cX4_windBest 65 = .ok (.iload_n 3, 1) := by decide +kernel
theorem dX4_windBest_66 : decode cX4_windBest 66 = .ok (.invokevirtual 137, 3) := by decide +kernel
theorem dX4_windBest_69 : decode cX4_windBest 69 = .ok (.aload_n 0, 1) := by decide +kernel
theorem dX4_windBest_70 : decode cX4_windBest 70 = .ok (.getfield 7, 3) := by decide +kernel
theorem dX4_windBest_73 : decode cX4_windBest 73 = .ok (.iconst 3, 1) := by decide +kernel
theorem dX4_windBest_74 : decode cX4_windBest 74 = .ok (.dup2, 1) := by decide +kernel
theorem dX4_windBest_75 : decode cX4_windBest 75 = .ok (.iaload, 1) := by decide +kernel
theorem dX4_windBest_76 : decode cX4_windBest 76 = .ok (.iconst 1, 1) := by decide +kernel
theorem dX4_windBest_77 : decode cX4_windBest 77 = .ok (.iadd, 1) := by decide +kernel
theorem dX4_windBest_78 : decode cX4_windBest 78 = .ok (.iastore, 1) := by decide +kernel
theorem dX4_windBest_79 : decode cX4_windBest 79 = .ok (.iinc 2 1, 3) := by decide +kernel
theorem dX4_windBest_82 : decode cX4_windBest 82 = .ok (.aload_n 0, 1) := by decide +kernel
theorem dX4_windBest_83 : decode cX4_windBest 83 = .ok (.aload_n 0, 1) := by decide +kernel
theorem dX4_windBest_84 : decode cX4_windBest 84 = .ok (.getfield 7, 3) := by decide +kernel
theorem dX4_windBest_87 : decode cX4_windBest 87 = .ok (.iconst 2, 1) := by decide +kernel
theorem dX4_windBest_88 : decode cX4_windBest 88 = .ok (.iaload, 1) := by decide +kernel
theorem dX4_windBest_89 : decode cX4_windBest 89 = .ok (.invokevirtual 141, 3) := by decide +kernel
theorem dX4_windBest_92 : decode cX4_windBest 92 = .ok (.istore_n 3, 1) := by decide +kernel
theorem dX4_windBest_93 : decode cX4_windBest 93 = .ok (.goto (-55), 3) := by decide +kernel
theorem dX4_windBest_96 : decode cX4_windBest 96 = .ok (.iload_n 2, 1) := by decide +kernel
theorem dX4_windBest_97 : decode cX4_windBest 97 = .ok (.ireturn, 1) := by decide +kernel
theorem dX4_want_0 : decode cX4_want 0 = .ok (.aload_n 0, 1) := by decide +kernel
theorem dX4_want_1 : decode cX4_want 1 = .ok (.iconst 0, 1) := by decide +kernel
theorem dX4_want_2 : decode cX4_want 2 = .ok (.putfield 35, 3) := by decide +kernel
theorem dX4_want_5 : decode cX4_want 5 = .ok (.iload_n 1, 1) := by decide +kernel
theorem dX4_want_6 : decode cX4_want 6 = .ok (.iload_n 2, 1) := by decide +kernel
theorem dX4_want_7 : decode cX4_want 7 = .ok (.invokestatic 147, 3) := by decide +kernel
theorem dX4_want_10 : decode cX4_want 10 = .ok (.ifCond .ne 9, 3) := by decide +kernel
theorem dX4_want_13 : decode cX4_want 13 = .ok (.aload_n 0, 1) := by decide +kernel
theorem dX4_want_14 : decode cX4_want 14 = .ok (.iconst 1, 1) := by decide +kernel
theorem dX4_want_15 : decode cX4_want 15 = .ok (.invokevirtual 118, 3) := by decide +kernel
theorem dX4_want_18 : decode cX4_want 18 = .ok (.ireturn, 1) := by decide +kernel
theorem dX4_want_19 : decode cX4_want 19 = .ok (.iload_n 3, 1) := by decide +kernel
theorem dX4_want_20 : decode cX4_want 20 = .ok (.iconst 0, 1) := by decide +kernel
theorem dX4_want_21 : decode cX4_want 21 = .ok (.bipush 9, 2) := by decide +kernel
theorem dX4_want_23 : decode cX4_want 23 = .ok (.invokestatic 42, 3) := by decide +kernel
theorem dX4_want_26 : decode cX4_want 26 = .ok (.ifCond .ne 9, 3) := by decide +kernel
theorem dX4_want_29 : decode cX4_want 29 = .ok (.aload_n 0, 1) := by decide +kernel
theorem dX4_want_30 : decode cX4_want 30 = .ok (.iconst 2, 1) := by decide +kernel
theorem dX4_want_31 : decode cX4_want 31 = .ok (.invokevirtual 118, 3) := by decide +kernel
theorem dX4_want_34 : decode cX4_want 34 = .ok (.ireturn, 1) := by decide +kernel
theorem dX4_want_35 : decode cX4_want 35 = .ok (.aload_n 0, 1) := by decide +kernel
theorem dX4_want_36 : decode cX4_want 36 = .ok (.invokevirtual 121, 3) := by decide +kernel
theorem dX4_want_39 : decode cX4_want 39 = .ok (.aload_n 0, 1) := by decide +kernel
theorem dX4_want_40 : decode cX4_want 40 = .ok (.getfield 7, 3) := by decide +kernel
theorem dX4_want_43 : decode cX4_want 43 = .ok (.sipush 616, 3) := by decide +kernel
theorem dX4_want_46 : decode cX4_want 46 = .ok (.bipush 12, 2) := by decide +kernel
theorem dX4_want_48 : decode cX4_want 48 = .ok (.iload_n 2, 1) := by decide +kernel
theorem dX4_want_49 : decode cX4_want 49 = .ok (.imul, 1) := by decide +kernel
theorem dX4_want_50 : decode cX4_want 50 = .ok (.iadd, 1) := by decide +kernel
theorem dX4_want_51 : decode cX4_want 51 = .ok (.iload_n 1, 1) := by decide +kernel
theorem dX4_want_52 : decode cX4_want 52 = .ok (.iadd, 1) := by decide +kernel
theorem dX4_want_53 : decode cX4_want 53 = .ok (.iaload, 1) := by decide +kernel
theorem dX4_want_54 : decode cX4_want 54 = .ok (.istore 4, 2) := by decide +kernel
theorem dX4_want_56 : decode cX4_want 56 = .ok (.aload_n 0, 1) := by decide +kernel
theorem dX4_want_57 : decode cX4_want 57 = .ok (.getfield 7, 3) := by decide +kernel
theorem dX4_want_60 : decode cX4_want 60 = .ok (.sipush 616, 3) := by decide +kernel
theorem dX4_want_63 : decode cX4_want 63 = .ok (.bipush 12, 2) := by decide +kernel
theorem dX4_want_65 : decode cX4_want 65 = .ok (.iload_n 2, 1) := by decide +kernel
theorem dX4_want_66 : decode cX4_want 66 = .ok (.imul, 1) := by decide +kernel
theorem dX4_want_67 : decode cX4_want 67 = .ok (.iadd, 1) := by decide +kernel
theorem dX4_want_68 : decode cX4_want 68 = .ok (.iload_n 1, 1) := by decide +kernel
theorem dX4_want_69 : decode cX4_want 69 = .ok (.iadd, 1) := by decide +kernel
theorem dX4_want_70 : decode cX4_want 70 = .ok (.iload_n 3, 1) := by decide +kernel
theorem dX4_want_71 : decode cX4_want 71 = .ok (.iastore, 1) := by decide +kernel
theorem dX4_want_72 : decode cX4_want 72 = .ok (.iload 4, 2) := by decide +kernel
theorem dX4_want_74 : decode cX4_want 74 = .ok (.ireturn, 1) := by decide +kernel
theorem dX4_keepsGreys_0 : decode cX4_keepsGreys 0 = .ok (.iconst 0, 1) := by decide +kernel
theorem dX4_keepsGreys_1 : decode cX4_keepsGreys 1 = .ok (.istore_n 1, 1) := by decide +kernel
theorem dX4_keepsGreys_2 : decode cX4_keepsGreys 2 = .ok (.iload_n 1, 1) := by decide +kernel
theorem dX4_keepsGreys_3 : decode cX4_keepsGreys 3 = .ok (.sipush 144, 3) := by decide +kernel
theorem dX4_keepsGreys_6 : decode cX4_keepsGreys 6 = .ok (.if_icmp .ge 25, 3) := by decide +kernel
theorem dX4_keepsGreys_9 : decode cX4_keepsGreys 9 = .ok (.aload_n 0, 1) := by decide +kernel
theorem dX4_keepsGreys_10 : decode cX4_keepsGreys 10 = .ok (.getfield 32, 3) := by decide +kernel
theorem dX4_keepsGreys_13 : decode cX4_keepsGreys 13 = .ok (.iload_n 1, 1) := by decide +kernel
theorem dX4_keepsGreys_14 : decode cX4_keepsGreys 14 = .ok (.aload_n 0, 1) := by decide +kernel
theorem dX4_keepsGreys_15 : decode cX4_keepsGreys 15 = .ok (.getfield 7, 3) := by decide +kernel
theorem dX4_keepsGreys_18 : decode cX4_keepsGreys 18 = .ok (.sipush 616, 3) := by decide +kernel
theorem dX4_keepsGreys_21 : decode cX4_keepsGreys 21 = .ok (.iload_n 1, 1) := by decide +kernel
theorem dX4_keepsGreys_22 : decode cX4_keepsGreys 22 = .ok (.iadd, 1) := by decide +kernel
theorem dX4_keepsGreys_23 : decode cX4_keepsGreys 23 = .ok (.iaload, 1) := by decide +kernel
theorem dX4_keepsGreys_24 : decode cX4_keepsGreys 24 = .ok (.iastore, 1) := by decide +kernel
theorem dX4_keepsGreys_25 : decode cX4_keepsGreys 25 = .ok (.iinc 1 1, 3) := by decide +kernel
theorem dX4_keepsGreys_28 : decode cX4_keepsGreys 28 = .ok (.goto (-26), 3) := by decide +kernel
theorem dX4_keepsGreys_31 : decode cX4_keepsGreys 31 = .ok (.return_, 1) := by decide +kernel
theorem dX4_turns_0 : decode cX4_turns 0 = .ok (.iload_n 1, 1) := by decide +kernel
theorem dX4_turns_1 : decode cX4_turns 1 = .ok (.bipush 12, 2) := by decide +kernel
theorem dX4_turns_3 : decode cX4_turns 3 = .ok (.irem, 1) := by decide +kernel
theorem dX4_turns_4 : decode cX4_turns 4 = .ok (.istore_n 3, 1) := by decide +kernel
theorem dX4_turns_5 : decode cX4_turns 5 = .ok (.iload_n 1, 1) := by decide +kernel
theorem dX4_turns_6 : decode cX4_turns 6 = .ok (.bipush 12, 2) := by decide +kernel
theorem dX4_turns_8 : decode cX4_turns 8 = .ok (.idiv, 1) := by decide +kernel
theorem dX4_turns_9 : decode cX4_turns 9 = .ok (.istore 4, 2) := by decide +kernel
theorem dX4_turns_11 : decode cX4_turns 11 = .ok (.iload_n 2, 1) := by decide +kernel
theorem dX4_turns_12 : decode cX4_turns 12 = .ok (.ifCond .ne 16, 3) := by decide +kernel
theorem dX4_turns_15 : decode cX4_turns 15 = .ok (.bipush 12, 2) := by decide +kernel
theorem dX4_turns_17 : decode cX4_turns 17 = .ok (.iload_n 3, 1) := by decide +kernel
theorem dX4_turns_18 : decode cX4_turns 18 = .ok (.imul, 1) := by decide +kernel
theorem dX4_turns_19 : decode cX4_turns 19 = .ok (.bipush 11, 2) := by decide +kernel
theorem dX4_turns_21 : decode cX4_turns 21 = .ok (.iadd, 1) := by decide +kernel
theorem dX4_turns_22 : decode cX4_turns 22 = .ok (.iload 4, 2) := by decide +kernel
theorem dX4_turns_24 : decode cX4_turns 24 = .ok (.isub, 1) := by decide +kernel
theorem dX4_turns_25 : decode cX4_turns 25 = .ok (.goto 22, 3) := by decide +kernel
theorem dX4_turns_28 : decode cX4_turns 28 = .ok (.iload_n 2, 1) := by decide +kernel
theorem dX4_turns_29 : decode cX4_turns 29 = .ok (.iconst 1, 1) := by decide +kernel
theorem dX4_turns_30 : decode cX4_turns 30 = .ok (.if_icmp .ne 16, 3) := by decide +kernel
theorem dX4_turns_33 : decode cX4_turns 33 = .ok (.bipush 12, 2) := by decide +kernel
theorem dX4_turns_35 : decode cX4_turns 35 = .ok (.iload 4, 2) := by decide +kernel
theorem dX4_turns_37 : decode cX4_turns 37 = .ok (.imul, 1) := by decide +kernel
theorem dX4_turns_38 : decode cX4_turns 38 = .ok (.bipush 11, 2) := by decide +kernel
theorem dX4_turns_40 : decode cX4_turns 40 = .ok (.iadd, 1) := by decide +kernel
theorem dX4_turns_41 : decode cX4_turns 41 = .ok (.iload_n 3, 1) := by decide +kernel
theorem dX4_turns_42 : decode cX4_turns 42 = .ok (.isub, 1) := by decide +kernel
theorem dX4_turns_43 : decode cX4_turns 43 = .ok (.goto 4, 3) := by decide +kernel
theorem dX4_turns_46 : decode cX4_turns 46 = .ok (.iload_n 1, 1) := by decide +kernel
theorem dX4_turns_47 : decode cX4_turns 47 = .ok (.istore 5, 2) := by decide +kernel
theorem dX4_turns_49 : decode cX4_turns 49 = .ok (.aload_n 0, 1) := by decide +kernel
theorem dX4_turns_50 : decode cX4_turns 50 = .ok (.getfield 7, 3) := by decide +kernel
theorem dX4_turns_53 : decode cX4_turns 53 = .ok (.sipush 616, 3) := by decide +kernel
theorem dX4_turns_56 : decode cX4_turns 56 = .ok (.iload 5, 2) := by decide +kernel
theorem dX4_turns_58 : decode cX4_turns 58 = .ok (.iadd, 1) := by decide +kernel
theorem dX4_turns_59 : decode cX4_turns 59 = .ok (.iload_n 2, 1) := by decide +kernel
theorem dX4_turns_60 : decode cX4_turns 60 = .ok (.iconst 2, 1) := by decide +kernel
theorem dX4_turns_61 : decode cX4_turns 61 = .ok (.if_icmp .ne 15, 3) := by decide +kernel
theorem dX4_turns_64 : decode cX4_turns 64 = .ok (.bipush 9, 2) := by decide +kernel
theorem dX4_turns_66 : decode cX4_turns 66 = .ok (.aload_n 0, 1) := by decide +kernel
theorem dX4_turns_67 : decode cX4_turns 67 = .ok (.getfield 32, 3) := by decide +kernel
theorem dX4_turns_70 : decode cX4_turns 70 = .ok (.iload_n 1, 1) := by decide +kernel
theorem dX4_turns_71 : decode cX4_turns 71 = .ok (.iaload, 1) := by decide +kernel
theorem dX4_turns_72 : decode cX4_turns 72 = .ok (.isub, 1) := by decide +kernel
theorem dX4_turns_73 : decode cX4_turns 73 = .ok (.goto 9, 3) := by decide +kernel
theorem dX4_turns_76 : decode cX4_turns 76 = .ok (.aload_n 0, 1) := by decide +kernel
theorem dX4_turns_77 : decode cX4_turns 77 = .ok (.getfield 32, 3) := by decide +kernel
theorem dX4_turns_80 : decode cX4_turns 80 = .ok (.iload_n 1, 1) := by decide +kernel
theorem dX4_turns_81 : decode cX4_turns 81 = .ok (.iaload, 1) := by decide +kernel
theorem dX4_turns_82 : decode cX4_turns 82 = .ok (.iastore, 1) := by decide +kernel
theorem dX4_turns_83 : decode cX4_turns 83 = .ok (.return_, 1) := by decide +kernel
theorem dX4_turnFace_0 : decode cX4_turnFace 0 = .ok (.aload_n 0, 1) := by decide +kernel
theorem dX4_turnFace_1 : decode cX4_turnFace 1 = .ok (.iconst 0, 1) := by decide +kernel
theorem dX4_turnFace_2 : decode cX4_turnFace 2 = .ok (.putfield 35, 3) := by decide +kernel
theorem dX4_turnFace_5 : decode cX4_turnFace 5 = .ok (.iload_n 1, 1) := by decide +kernel
theorem dX4_turnFace_6 : decode cX4_turnFace 6 = .ok (.iconst 0, 1) := by decide +kernel
theorem dX4_turnFace_7 : decode cX4_turnFace 7 = .ok (.iconst 2, 1) := by decide +kernel
theorem dX4_turnFace_8 : decode cX4_turnFace 8 = .ok (.invokestatic 42, 3) := by decide +kernel
theorem dX4_turnFace_11 : decode cX4_turnFace 11 = .ok (.ifCond .ne 9, 3) := by decide +kernel
theorem dX4_turnFace_14 : decode cX4_turnFace 14 = .ok (.aload_n 0, 1) := by decide +kernel
theorem dX4_turnFace_15 : decode cX4_turnFace 15 = .ok (.iconst 1, 1) := by decide +kernel
theorem dX4_turnFace_16 : decode cX4_turnFace 16 = .ok (.invokevirtual 118, 3) := by decide +kernel
theorem dX4_turnFace_19 : decode cX4_turnFace 19 = .ok (.ireturn, 1) := by decide +kernel
theorem dX4_turnFace_20 : decode cX4_turnFace 20 = .ok (.aload_n 0, 1) := by decide +kernel
theorem dX4_turnFace_21 : decode cX4_turnFace 21 = .ok (.invokevirtual 121, 3) := by decide +kernel
theorem dX4_turnFace_24 : decode cX4_turnFace 24 = .ok (.aload_n 0, 1) := by decide +kernel
theorem dX4_turnFace_25 : decode cX4_turnFace 25 = .ok (.invokevirtual 150, 3) := by decide +kernel
theorem dX4_turnFace_28 : decode cX4_turnFace 28 = .ok (.iconst 0, 1) := by decide +kernel
theorem dX4_turnFace_29 : decode cX4_turnFace 29 = .ok (.istore_n 2, 1) := by decide +kernel
theorem dX4_turnFace_30 : decode cX4_turnFace 30 = .ok (.iload_n 2, 1) := by decide +kernel
theorem dX4_turnFace_31 : decode cX4_turnFace 31 = .ok (.sipush 144, 3) := by decide +kernel
theorem dX4_turnFace_34 : decode cX4_turnFace 34 = .ok (.if_icmp .ge 15, 3) := by decide +kernel
theorem dX4_turnFace_37 : decode cX4_turnFace 37 = .ok (.aload_n 0, 1) := by decide +kernel
theorem dX4_turnFace_38 : decode cX4_turnFace 38 = .ok (.iload_n 2, 1) := by decide +kernel
theorem dX4_turnFace_39 : decode cX4_turnFace 39 = .ok (.iload_n 1, 1) := by decide +kernel
theorem dX4_turnFace_40 : decode cX4_turnFace 40 = .ok (.invokevirtual 153, 3) := by decide +kernel
theorem dX4_turnFace_43 : decode cX4_turnFace 43 = .ok (.iinc 2 1, 3) := by decide +kernel
theorem dX4_turnFace_46 : decode cX4_turnFace 46 = .ok (.goto (-16), 3) := by decide +kernel
theorem dX4_turnFace_49 : decode cX4_turnFace 49 = .ok (.aload_n 0, 1) := by decide +kernel
theorem dX4_turnFace_50 : decode cX4_turnFace 50 = .ok (.invokevirtual 156, 3) := by decide +kernel
theorem dX4_turnFace_53 : decode cX4_turnFace 53 = .ok (.ireturn, 1) := by decide +kernel
theorem dX4_append_0 : decode cX4_append 0 = .ok (.aload_n 0, 1) := by decide +kernel
theorem dX4_append_1 : decode cX4_append 1 = .ok (.iconst 0, 1) := by decide +kernel
theorem dX4_append_2 : decode cX4_append 2 = .ok (.putfield 35, 3) := by decide +kernel
theorem dX4_append_5 : decode cX4_append 5 = .ok (.iload_n 1, 1) := by decide +kernel
theorem dX4_append_6 : decode cX4_append 6 = .ok (.bipush 33, 2) := by decide +kernel
theorem dX4_append_8 : decode cX4_append 8 = .ok (.bipush 126, 2) := by decide +kernel
theorem dX4_append_10 : decode cX4_append 10 = .ok (.invokestatic 42, 3) := by decide +kernel
theorem dX4_append_13 : decode cX4_append 13 = .ok (.ifCond .ne 9, 3) := by decide +kernel
theorem dX4_append_16 : decode cX4_append 16 = .ok (.aload_n 0, 1) := by decide +kernel
theorem dX4_append_17 : decode cX4_append 17 = .ok (.iconst 1, 1) := by decide +kernel
theorem dX4_append_18 : decode cX4_append 18 = .ok (.invokevirtual 118, 3) := by decide +kernel
theorem dX4_append_21 : decode cX4_append 21 = .ok (.ireturn, 1) := by decide +kernel
theorem dX4_append_22 : decode cX4_append 22 = .ok (.aload_n 0, 1) := by decide +kernel
theorem dX4_append_23 : decode cX4_append 23 = .ok (.getfield 160, 3) := by decide +kernel
theorem dX4_append_26 : decode cX4_append 26 = .ok (.bipush 60, 2) := by decide +kernel
end
section
theorem dX4_append_28 : decode cX4_append 28 = .ok (.if_icmp .ne 9, 3) := by decide +kernel
theorem dX4_append_31 : decode cX4_append 31 = .ok (.aload_n 0, 1) := by decide +kernel
theorem dX4_append_32 : decode cX4_append 32 = .ok (.iconst 2, 1) := by decide +kernel
theorem dX4_append_33 : decode cX4_append 33 = .ok (.invokevirtual 118, 3) := by decide +kernel
theorem dX4_append_36 : decode cX4_append 36 = .ok (.ireturn, 1) := by decide +kernel
theorem dX4_append_37 : decode cX4_append 37 = .ok (.aload_n 0, 1) := by decide +kernel
theorem dX4_append_38 : decode cX4_append 38 = .ok (.getfield 23, 3) := by decide +kernel
theorem dX4_append_41 : decode cX4_append 41 = .ok (.aload_n 0, 1) := by decide +kernel
theorem dX4_append_42 : decode cX4_append 42 = .ok (.getfield 160, 3) := by decide +kernel
theorem dX4_append_45 : decode cX4_append 45 = .ok (.iload_n 1, 1) := by decide +kernel
theorem dX4_append_46 : decode cX4_append 46 = .ok (.iastore, 1) := by decide +kernel
theorem dX4_append_47 : decode cX4_append 47 = .ok (.aload_n 0, 1) := by decide +kernel
theorem dX4_append_48 : decode cX4_append 48 = .ok (.dup, 1) := by decide +kernel
theorem dX4_append_49 : decode cX4_append 49 = .ok (.getfield 160, 3) := by decide +kernel
theorem dX4_append_52 : decode cX4_append 52 = .ok (.iconst 1, 1) := by decide +kernel
theorem dX4_append_53 : decode cX4_append 53 = .ok (.iadd, 1) := by decide +kernel
theorem dX4_append_54 : decode cX4_append 54 = .ok (.putfield 160, 3) := by decide +kernel
theorem dX4_append_57 : decode cX4_append 57 = .ok (.aload_n 0, 1) := by decide +kernel
theorem dX4_append_58 : decode cX4_append 58 = .ok (.getfield 160, 3) := by decide +kernel
theorem dX4_append_61 : decode cX4_append 61 = .ok (.ireturn, 1) := by decide +kernel
theorem dX4_clearBuffer_0 : decode cX4_clearBuffer 0 = .ok (.aload_n 0, 1) := by decide +kernel
theorem dX4_clearBuffer_1 : decode cX4_clearBuffer 1 = .ok (.iconst 0, 1) := by decide +kernel
theorem dX4_clearBuffer_2 : decode cX4_clearBuffer 2 = .ok (.putfield 35, 3) := by decide +kernel
theorem dX4_clearBuffer_5 : decode cX4_clearBuffer 5 = .ok (.aload_n 0, 1) := by decide +kernel
theorem dX4_clearBuffer_6 : decode cX4_clearBuffer 6 = .ok (.getfield 160, 3) := by decide +kernel
theorem dX4_clearBuffer_9 : decode cX4_clearBuffer 9 = .ok (.istore_n 1, 1) := by decide +kernel
theorem dX4_clearBuffer_10 : decode cX4_clearBuffer 10 = .ok (.aload_n 0, 1) := by decide +kernel
theorem dX4_clearBuffer_11 : decode cX4_clearBuffer 11 = .ok (.iconst 0, 1) := by decide +kernel
theorem dX4_clearBuffer_12 : decode cX4_clearBuffer 12 = .ok (.putfield 160, 3) := by decide +kernel
theorem dX4_clearBuffer_15 : decode cX4_clearBuffer 15 = .ok (.iload_n 1, 1) := by decide +kernel
theorem dX4_clearBuffer_16 : decode cX4_clearBuffer 16 = .ok (.ireturn, 1) := by decide +kernel
theorem dX4_sign_0 : decode cX4_sign 0 = .ok (.aload_n 0, 1) := by decide +kernel
theorem dX4_sign_1 : decode cX4_sign 1 = .ok (.getfield 163, 3) := by decide +kernel
theorem dX4_sign_4 : decode cX4_sign 4 = .ok (.aload_n 0, 1) := by decide +kernel
theorem dX4_sign_5 : decode cX4_sign 5 = .ok (.getfield 160, 3) := by decide +kernel
theorem dX4_sign_8 : decode cX4_sign 8 = .ok (.if_icmp .ge 15, 3) := by decide +kernel
theorem dX4_sign_11 : decode cX4_sign 11 = .ok (.aload_n 0, 1) := by decide +kernel
theorem dX4_sign_12 : decode cX4_sign 12 = .ok (.getfield 23, 3) := by decide +kernel
theorem dX4_sign_15 : decode cX4_sign 15 = .ok (.aload_n 0, 1) := by decide +kernel
theorem dX4_sign_16 : decode cX4_sign 16 = .ok (.getfield 163, 3) := by decide +kernel
theorem dX4_sign_19 : decode cX4_sign 19 = .ok (.iaload, 1) := by decide +kernel
theorem dX4_sign_20 : decode cX4_sign 20 = .ok (.goto 4, 3) := by decide +kernel
theorem dX4_sign_23 : decode cX4_sign 23 = .ok (.iconst 0, 1) := by decide +kernel
theorem dX4_sign_24 : decode cX4_sign 24 = .ok (.ireturn, 1) := by decide +kernel
theorem dX4_takes_0 : decode cX4_takes 0 = .ok (.aload_n 0, 1) := by decide +kernel
theorem dX4_takes_1 : decode cX4_takes 1 = .ok (.aload_n 0, 1) := by decide +kernel
theorem dX4_takes_2 : decode cX4_takes 2 = .ok (.getfield 166, 3) := by decide +kernel
theorem dX4_takes_5 : decode cX4_takes 5 = .ok (.ifCond .eq 19, 3) := by decide +kernel
theorem dX4_takes_8 : decode cX4_takes 8 = .ok (.aload_n 0, 1) := by decide +kernel
theorem dX4_takes_9 : decode cX4_takes 9 = .ok (.invokevirtual 170, 3) := by decide +kernel
theorem dX4_takes_12 : decode cX4_takes 12 = .ok (.iload_n 1, 1) := by decide +kernel
theorem dX4_takes_13 : decode cX4_takes 13 = .ok (.iload_n 2, 1) := by decide +kernel
theorem dX4_takes_14 : decode cX4_takes 14 = .ok (.invokestatic 42, 3) := by decide +kernel
theorem dX4_takes_17 : decode cX4_takes 17 = .ok (.ifCond .eq 7, 3) := by decide +kernel
theorem dX4_takes_20 : decode cX4_takes 20 = .ok (.iconst 1, 1) := by decide +kernel
theorem dX4_takes_21 : decode cX4_takes 21 = .ok (.goto 4, 3) := by decide +kernel
theorem dX4_takes_24 : decode cX4_takes 24 = .ok (.iconst 0, 1) := by decide +kernel
theorem dX4_takes_25 : decode cX4_takes 25 = .ok (.putfield 166, 3) := by decide +kernel
theorem dX4_takes_28 : decode cX4_takes 28 = .ok (.aload_n 0, 1) := by decide +kernel
theorem dX4_takes_29 : decode cX4_takes 29 = .ok (.invokevirtual 170, 3) := by decide +kernel
theorem dX4_takes_32 : decode cX4_takes 32 = .ok (.iload_n 1, 1) := by decide +kernel
theorem dX4_takes_33 : decode cX4_takes 33 = .ok (.isub, 1) := by decide +kernel
theorem dX4_takes_34 : decode cX4_takes 34 = .ok (.istore_n 3, 1) := by decide +kernel
theorem dX4_takes_35 : decode cX4_takes 35 = .ok (.aload_n 0, 1) := by decide +kernel
theorem dX4_takes_36 : decode cX4_takes 36 = .ok (.dup, 1) := by decide +kernel
theorem dX4_takes_37 : decode cX4_takes 37 = .ok (.getfield 163, 3) := by decide +kernel
theorem dX4_takes_40 : decode cX4_takes 40 = .ok (.aload_n 0, 1) := by decide +kernel
theorem dX4_takes_41 : decode cX4_takes 41 = .ok (.getfield 166, 3) := by decide +kernel
theorem dX4_takes_44 : decode cX4_takes 44 = .ok (.ifCond .eq 7, 3) := by decide +kernel
theorem dX4_takes_47 : decode cX4_takes 47 = .ok (.iconst 1, 1) := by decide +kernel
theorem dX4_takes_48 : decode cX4_takes 48 = .ok (.goto 4, 3) := by decide +kernel
theorem dX4_takes_51 : decode cX4_takes 51 = .ok (.iconst 0, 1) := by decide +kernel
theorem dX4_takes_52 : decode cX4_takes 52 = .ok (.iadd, 1) := by decide +kernel
theorem dX4_takes_53 : decode cX4_takes 53 = .ok (.putfield 163, 3) := by decide +kernel
theorem dX4_takes_56 : decode cX4_takes 56 = .ok (.iload_n 3, 1) := by decide +kernel
theorem dX4_takes_57 : decode cX4_takes 57 = .ok (.ireturn, 1) := by decide +kernel
theorem dX4_laysRow_0 : decode cX4_laysRow 0 = .ok (.iload_n 2, 1) := by decide +kernel
theorem dX4_laysRow_1 : decode cX4_laysRow 1 = .ok (.istore 6, 2) := by decide +kernel
theorem dX4_laysRow_3 : decode cX4_laysRow 3 = .ok (.iload 6, 2) := by decide +kernel
theorem dX4_laysRow_5 : decode cX4_laysRow 5 = .ok (.iload_n 2, 1) := by decide +kernel
theorem dX4_laysRow_6 : decode cX4_laysRow 6 = .ok (.iload_n 3, 1) := by decide +kernel
theorem dX4_laysRow_7 : decode cX4_laysRow 7 = .ok (.iadd, 1) := by decide +kernel
theorem dX4_laysRow_8 : decode cX4_laysRow 8 = .ok (.if_icmp .ge 39, 3) := by decide +kernel
theorem dX4_laysRow_11 : decode cX4_laysRow 11 = .ok (.iload 5, 2) := by decide +kernel
theorem dX4_laysRow_13 : decode cX4_laysRow 13 = .ok (.ifCond .eq 34, 3) := by decide +kernel
theorem dX4_laysRow_16 : decode cX4_laysRow 16 = .ok (.aload_n 0, 1) := by decide +kernel
theorem dX4_laysRow_17 : decode cX4_laysRow 17 = .ok (.getfield 166, 3) := by decide +kernel
theorem dX4_laysRow_20 : decode cX4_laysRow 20 = .ok (.ifCond .eq 27, 3) := by decide +kernel
theorem dX4_laysRow_23 : decode cX4_laysRow 23 = .ok (.aload_n 0, 1) := by decide +kernel
theorem dX4_laysRow_24 : decode cX4_laysRow 24 = .ok (.getfield 7, 3) := by decide +kernel
theorem dX4_laysRow_27 : decode cX4_laysRow 27 = .ok (.sipush 616, 3) := by decide +kernel
theorem dX4_laysRow_30 : decode cX4_laysRow 30 = .ok (.bipush 12, 2) := by decide +kernel
theorem dX4_laysRow_32 : decode cX4_laysRow 32 = .ok (.iload_n 1, 1) := by decide +kernel
theorem dX4_laysRow_33 : decode cX4_laysRow 33 = .ok (.imul, 1) := by decide +kernel
theorem dX4_laysRow_34 : decode cX4_laysRow 34 = .ok (.iadd, 1) := by decide +kernel
theorem dX4_laysRow_35 : decode cX4_laysRow 35 = .ok (.iload 6, 2) := by decide +kernel
theorem dX4_laysRow_37 : decode cX4_laysRow 37 = .ok (.iadd, 1) := by decide +kernel
theorem dX4_laysRow_38 : decode cX4_laysRow 38 = .ok (.iload 4, 2) := by decide +kernel
theorem dX4_laysRow_40 : decode cX4_laysRow 40 = .ok (.iastore, 1) := by decide +kernel
theorem dX4_laysRow_41 : decode cX4_laysRow 41 = .ok (.iinc 6 1, 3) := by decide +kernel
theorem dX4_laysRow_44 : decode cX4_laysRow 44 = .ok (.goto (-41), 3) := by decide +kernel
theorem dX4_laysRow_47 : decode cX4_laysRow 47 = .ok (.return_, 1) := by decide +kernel
theorem dX4_readsRow_0 : decode cX4_readsRow 0 = .ok (.aload_n 0, 1) := by decide +kernel
theorem dX4_readsRow_1 : decode cX4_readsRow 1 = .ok (.bipush 97, 2) := by decide +kernel
theorem dX4_readsRow_3 : decode cX4_readsRow 3 = .ok (.bipush 108, 2) := by decide +kernel
theorem dX4_readsRow_5 : decode cX4_readsRow 5 = .ok (.invokevirtual 173, 3) := by decide +kernel
theorem dX4_readsRow_8 : decode cX4_readsRow 8 = .ok (.istore_n 2, 1) := by decide +kernel
theorem dX4_readsRow_9 : decode cX4_readsRow 9 = .ok (.aload_n 0, 1) := by decide +kernel
theorem dX4_readsRow_10 : decode cX4_readsRow 10 = .ok (.getfield 166, 3) := by decide +kernel
theorem dX4_readsRow_13 : decode cX4_readsRow 13 = .ok (.ifCond .eq 42, 3) := by decide +kernel
theorem dX4_readsRow_16 : decode cX4_readsRow 16 = .ok (.aload_n 0, 1) := by decide +kernel
theorem dX4_readsRow_17 : decode cX4_readsRow 17 = .ok (.invokevirtual 170, 3) := by decide +kernel
theorem dX4_readsRow_20 : decode cX4_readsRow 20 = .ok (.bipush 42, 2) := by decide +kernel
theorem dX4_readsRow_22 : decode cX4_readsRow 22 = .ok (.if_icmp .ne 33, 3) := by decide +kernel
theorem dX4_readsRow_25 : decode cX4_readsRow 25 = .ok (.aload_n 0, 1) := by decide +kernel
theorem dX4_readsRow_26 : decode cX4_readsRow 26 = .ok (.dup, 1) := by decide +kernel
theorem dX4_readsRow_27 : decode cX4_readsRow 27 = .ok (.getfield 163, 3) := by decide +kernel
theorem dX4_readsRow_30 : decode cX4_readsRow 30 = .ok (.iconst 1, 1) := by decide +kernel
theorem dX4_readsRow_31 : decode cX4_readsRow 31 = .ok (.iadd, 1) := by decide +kernel
theorem dX4_readsRow_32 : decode cX4_readsRow 32 = .ok (.putfield 163, 3) := by decide +kernel
theorem dX4_readsRow_35 : decode cX4_readsRow 35 = .ok (.aload_n 0, 1) := by decide +kernel
theorem dX4_readsRow_36 : decode cX4_readsRow 36 = .ok (.bipush 48, 2) := by decide +kernel
theorem dX4_readsRow_38 : decode cX4_readsRow 38 = .ok (.bipush 57, 2) := by decide +kernel
theorem dX4_readsRow_40 : decode cX4_readsRow 40 = .ok (.invokevirtual 173, 3) := by decide +kernel
theorem dX4_readsRow_43 : decode cX4_readsRow 43 = .ok (.istore_n 3, 1) := by decide +kernel
theorem dX4_readsRow_44 : decode cX4_readsRow 44 = .ok (.aload_n 0, 1) := by decide +kernel
theorem dX4_readsRow_45 : decode cX4_readsRow 45 = .ok (.iload_n 2, 1) := by decide +kernel
theorem dX4_readsRow_46 : decode cX4_readsRow 46 = .ok (.iconst 0, 1) := by decide +kernel
theorem dX4_readsRow_47 : decode cX4_readsRow 47 = .ok (.bipush 12, 2) := by decide +kernel
theorem dX4_readsRow_49 : decode cX4_readsRow 49 = .ok (.iload_n 3, 1) := by decide +kernel
theorem dX4_readsRow_50 : decode cX4_readsRow 50 = .ok (.iload_n 1, 1) := by decide +kernel
theorem dX4_readsRow_51 : decode cX4_readsRow 51 = .ok (.invokevirtual 176, 3) := by decide +kernel
theorem dX4_readsRow_54 : decode cX4_readsRow 54 = .ok (.return_, 1) := by decide +kernel
theorem dX4_readsRow_55 : decode cX4_readsRow 55 = .ok (.aload_n 0, 1) := by decide +kernel
theorem dX4_readsRow_56 : decode cX4_readsRow 56 = .ok (.bipush 48, 2) := by decide +kernel
theorem dX4_readsRow_58 : decode cX4_readsRow 58 = .ok (.bipush 57, 2) := by decide +kernel
theorem dX4_readsRow_60 : decode cX4_readsRow 60 = .ok (.invokevirtual 173, 3) := by decide +kernel
theorem dX4_readsRow_63 : decode cX4_readsRow 63 = .ok (.istore_n 3, 1) := by decide +kernel
theorem dX4_readsRow_64 : decode cX4_readsRow 64 = .ok (.aload_n 0, 1) := by decide +kernel
theorem dX4_readsRow_65 : decode cX4_readsRow 65 = .ok (.iload_n 2, 1) := by decide +kernel
theorem dX4_readsRow_66 : decode cX4_readsRow 66 = .ok (.iconst 0, 1) := by decide +kernel
theorem dX4_readsRow_67 : decode cX4_readsRow 67 = .ok (.iconst 1, 1) := by decide +kernel
theorem dX4_readsRow_68 : decode cX4_readsRow 68 = .ok (.iload_n 3, 1) := by decide +kernel
theorem dX4_readsRow_69 : decode cX4_readsRow 69 = .ok (.iload_n 1, 1) := by decide +kernel
theorem dX4_readsRow_70 : decode cX4_readsRow 70 = .ok (.invokevirtual 176, 3) := by decide +kernel
theorem dX4_readsRow_73 : decode cX4_readsRow 73 = .ok (.iconst 1, 1) := by decide +kernel
theorem dX4_readsRow_74 : decode cX4_readsRow 74 = .ok (.istore 4, 2) := by decide +kernel
theorem dX4_readsRow_76 : decode cX4_readsRow 76 = .ok (.iload 4, 2) := by decide +kernel
theorem dX4_readsRow_78 : decode cX4_readsRow 78 = .ok (.bipush 12, 2) := by decide +kernel
theorem dX4_readsRow_80 : decode cX4_readsRow 80 = .ok (.if_icmp .ge 51, 3) := by decide +kernel
theorem dX4_readsRow_83 : decode cX4_readsRow 83 = .ok (.aload_n 0, 1) := by decide +kernel
theorem dX4_readsRow_84 : decode cX4_readsRow 84 = .ok (.getfield 166, 3) := by decide +kernel
theorem dX4_readsRow_87 : decode cX4_readsRow 87 = .ok (.ifCond .eq 44, 3) := by decide +kernel
theorem dX4_readsRow_90 : decode cX4_readsRow 90 = .ok (.aload_n 0, 1) := by decide +kernel
theorem dX4_readsRow_91 : decode cX4_readsRow 91 = .ok (.invokevirtual 170, 3) := by decide +kernel
theorem dX4_readsRow_94 : decode cX4_readsRow 94 = .ok (.bipush 48, 2) := by decide +kernel
theorem dX4_readsRow_96 : decode cX4_readsRow 96 = .ok (.bipush 57, 2) := by decide +kernel
theorem dX4_readsRow_98 : decode cX4_readsRow 98 = .ok (.invokestatic 42, 3) := by decide +kernel
theorem dX4_readsRow_101 : decode cX4_readsRow 101 = .ok (.ifCond .eq 30, 3) := by decide +kernel
theorem dX4_readsRow_104 : decode cX4_readsRow 104 = .ok (.aload_n 0, 1) := by decide +kernel
theorem dX4_readsRow_105 : decode cX4_readsRow 105 = .ok (.bipush 48, 2) := by decide +kernel
theorem dX4_readsRow_107 : decode cX4_readsRow 107 = .ok (.bipush 57, 2) := by decide +kernel
theorem dX4_readsRow_109 : decode cX4_readsRow 109 = .ok (.invokevirtual 173, 3) := by decide +kernel
theorem dX4_readsRow_112 : decode cX4_readsRow 112 = .ok (.istore 5, 2) := by decide +kernel
theorem dX4_readsRow_114 : decode cX4_readsRow 114 = .ok (.aload_n 0, 1) := by decide +kernel
theorem dX4_readsRow_115 : decode cX4_readsRow 115 = .ok (.iload_n 2, 1) := by decide +kernel
theorem dX4_readsRow_116 : decode cX4_readsRow 116 = .ok (.iload 4, 2) := by decide +kernel
theorem dX4_readsRow_118 : decode cX4_readsRow 118 = .ok (.iconst 1, 1) := by decide +kernel
theorem dX4_readsRow_119 : decode cX4_readsRow 119 = .ok (.iload 5, 2) := by decide +kernel
theorem dX4_readsRow_121 : decode cX4_readsRow 121 = .ok (.iload_n 1, 1) := by decide +kernel
theorem dX4_readsRow_122 : decode cX4_readsRow 122 = .ok (.invokevirtual 176, 3) := by decide +kernel
theorem dX4_readsRow_125 : decode cX4_readsRow 125 = .ok (.iinc 4 1, 3) := by decide +kernel
theorem dX4_readsRow_128 : decode cX4_readsRow 128 = .ok (.goto (-52), 3) := by decide +kernel
theorem dX4_readsRow_131 : decode cX4_readsRow 131 = .ok (.return_, 1) := by decide +kernel
theorem dX4_readsAll_0 : decode cX4_readsAll 0 = .ok (.aload_n 0, 1) := by decide +kernel
theorem dX4_readsAll_1 : decode cX4_readsAll 1 = .ok (.iconst 0, 1) := by decide +kernel
theorem dX4_readsAll_2 : decode cX4_readsAll 2 = .ok (.putfield 163, 3) := by decide +kernel
theorem dX4_readsAll_5 : decode cX4_readsAll 5 = .ok (.aload_n 0, 1) := by decide +kernel
theorem dX4_readsAll_6 : decode cX4_readsAll 6 = .ok (.iconst 1, 1) := by decide +kernel
theorem dX4_readsAll_7 : decode cX4_readsAll 7 = .ok (.putfield 166, 3) := by decide +kernel
theorem dX4_readsAll_10 : decode cX4_readsAll 10 = .ok (.aload_n 0, 1) := by decide +kernel
theorem dX4_readsAll_11 : decode cX4_readsAll 11 = .ok (.iload_n 1, 1) := by decide +kernel
theorem dX4_readsAll_12 : decode cX4_readsAll 12 = .ok (.invokevirtual 180, 3) := by decide +kernel
theorem dX4_readsAll_15 : decode cX4_readsAll 15 = .ok (.aload_n 0, 1) := by decide +kernel
theorem dX4_readsAll_16 : decode cX4_readsAll 16 = .ok (.getfield 166, 3) := by decide +kernel
theorem dX4_readsAll_19 : decode cX4_readsAll 19 = .ok (.ifCond .eq 38, 3) := by decide +kernel
theorem dX4_readsAll_22 : decode cX4_readsAll 22 = .ok (.aload_n 0, 1) := by decide +kernel
theorem dX4_readsAll_23 : decode cX4_readsAll 23 = .ok (.getfield 163, 3) := by decide +kernel
theorem dX4_readsAll_26 : decode cX4_readsAll 26 = .ok (.aload_n 0, 1) := by decide +kernel
theorem dX4_readsAll_27 : decode cX4_readsAll 27 = .ok (.getfield 160, 3) := by decide +kernel
theorem dX4_readsAll_30 : decode cX4_readsAll 30 = .ok (.if_icmp .ge 27, 3) := by decide +kernel
theorem dX4_readsAll_33 : decode cX4_readsAll 33 = .ok (.aload_n 0, 1) := by decide +kernel
theorem dX4_readsAll_34 : decode cX4_readsAll 34 = .ok (.bipush 59, 2) := by decide +kernel
theorem dX4_readsAll_36 : decode cX4_readsAll 36 = .ok (.bipush 59, 2) := by decide +kernel
theorem dX4_readsAll_38 : decode cX4_readsAll 38 = .ok (.invokevirtual 173, 3) := by decide +kernel
theorem dX4_readsAll_41 : decode cX4_readsAll 41 = .ok (.pop, 1) := by decide +kernel
theorem dX4_readsAll_42 : decode cX4_readsAll 42 = .ok (.aload_n 0, 1) := by decide +kernel
theorem dX4_readsAll_43 : decode cX4_readsAll 43 = .ok (.getfield 166, 3) := by decide +kernel
theorem dX4_readsAll_46 : decode cX4_readsAll 46 = .ok (.ifCond .eq (-31), 3) := by decide +kernel
theorem dX4_readsAll_49 : decode cX4_readsAll 49 = .ok (.aload_n 0, 1) := by decide +kernel
theorem dX4_readsAll_50 : decode cX4_readsAll 50 = .ok (.iload_n 1, 1) := by decide +kernel
theorem dX4_readsAll_51 : decode cX4_readsAll 51 = .ok (.invokevirtual 180, 3) := by decide +kernel
theorem dX4_readsAll_54 : decode cX4_readsAll 54 = .ok (.goto (-39), 3) := by decide +kernel
theorem dX4_readsAll_57 : decode cX4_readsAll 57 = .ok (.return_, 1) := by decide +kernel
theorem dX4_firstError_0 : decode cX4_firstError 0 = .ok (.aload_n 0, 1) := by decide +kernel
theorem dX4_firstError_1 : decode cX4_firstError 1 = .ok (.iconst 0, 1) := by decide +kernel
theorem dX4_firstError_2 : decode cX4_firstError 2 = .ok (.putfield 35, 3) := by decide +kernel
theorem dX4_firstError_5 : decode cX4_firstError 5 = .ok (.aload_n 0, 1) := by decide +kernel
theorem dX4_firstError_6 : decode cX4_firstError 6 = .ok (.iconst 0, 1) := by decide +kernel
theorem dX4_firstError_7 : decode cX4_firstError 7 = .ok (.invokevirtual 184, 3) := by decide +kernel
theorem dX4_firstError_10 : decode cX4_firstError 10 = .ok (.aload_n 0, 1) := by decide +kernel
theorem dX4_firstError_11 : decode cX4_firstError 11 = .ok (.getfield 163, 3) := by decide +kernel
theorem dX4_firstError_14 : decode cX4_firstError 14 = .ok (.ireturn, 1) := by decide +kernel
theorem dX4_load_0 : decode cX4_load 0 = .ok (.aload_n 0, 1) := by decide +kernel
theorem dX4_load_1 : decode cX4_load 1 = .ok (.iconst 0, 1) := by decide +kernel
theorem dX4_load_2 : decode cX4_load 2 = .ok (.putfield 35, 3) := by decide +kernel
theorem dX4_load_5 : decode cX4_load 5 = .ok (.aload_n 0, 1) := by decide +kernel
theorem dX4_load_6 : decode cX4_load 6 = .ok (.iconst 0, 1) := by decide +kernel
theorem dX4_load_7 : decode cX4_load 7 = .ok (.invokevirtual 184, 3) := by decide +kernel
theorem dX4_load_10 : decode cX4_load 10 = .ok (.aload_n 0, 1) := by decide +kernel
theorem dX4_load_11 : decode cX4_load 11 = .ok (.getfield 166, 3) := by decide +kernel
theorem dX4_load_14 : decode cX4_load 14 = .ok (.ifCond .ne 9, 3) := by decide +kernel
theorem dX4_load_17 : decode cX4_load 17 = .ok (.aload_n 0, 1) := by decide +kernel
theorem dX4_load_18 : decode cX4_load 18 = .ok (.iconst 1, 1) := by decide +kernel
theorem dX4_load_19 : decode cX4_load 19 = .ok (.invokevirtual 118, 3) := by decide +kernel
theorem dX4_load_22 : decode cX4_load 22 = .ok (.ireturn, 1) := by decide +kernel
theorem dX4_load_23 : decode cX4_load 23 = .ok (.aload_n 0, 1) := by decide +kernel
theorem dX4_load_24 : decode cX4_load 24 = .ok (.invokevirtual 121, 3) := by decide +kernel
theorem dX4_load_27 : decode cX4_load 27 = .ok (.aload_n 0, 1) := by decide +kernel
theorem dX4_load_28 : decode cX4_load 28 = .ok (.invokevirtual 150, 3) := by decide +kernel
theorem dX4_load_31 : decode cX4_load 31 = .ok (.aload_n 0, 1) := by decide +kernel
theorem dX4_load_32 : decode cX4_load 32 = .ok (.iconst 1, 1) := by decide +kernel
theorem dX4_load_33 : decode cX4_load 33 = .ok (.invokevirtual 184, 3) := by decide +kernel
theorem dX4_load_36 : decode cX4_load 36 = .ok (.aload_n 0, 1) := by decide +kernel
theorem dX4_load_37 : decode cX4_load 37 = .ok (.iconst 0, 1) := by decide +kernel
theorem dX4_load_38 : decode cX4_load 38 = .ok (.putfield 160, 3) := by decide +kernel
theorem dX4_load_41 : decode cX4_load 41 = .ok (.iconst 0, 1) := by decide +kernel
theorem dX4_load_42 : decode cX4_load 42 = .ok (.istore_n 1, 1) := by decide +kernel
theorem dX4_load_43 : decode cX4_load 43 = .ok (.iconst 0, 1) := by decide +kernel
theorem dX4_load_44 : decode cX4_load 44 = .ok (.istore_n 2, 1) := by decide +kernel
theorem dX4_load_45 : decode cX4_load 45 = .ok (.iload_n 2, 1) := by decide +kernel
theorem dX4_load_46 : decode cX4_load 46 = .ok (.sipush 144, 3) := by decide +kernel
theorem dX4_load_49 : decode cX4_load 49 = .ok (.if_icmp .ge 36, 3) := by decide +kernel
theorem dX4_load_52 : decode cX4_load 52 = .ok (.iload_n 1, 1) := by decide +kernel
theorem dX4_load_53 : decode cX4_load 53 = .ok (.aload_n 0, 1) := by decide +kernel
theorem dX4_load_54 : decode cX4_load 54 = .ok (.getfield 32, 3) := by decide +kernel
theorem dX4_load_57 : decode cX4_load 57 = .ok (.iload_n 2, 1) := by decide +kernel
theorem dX4_load_58 : decode cX4_load 58 = .ok (.iaload, 1) := by decide +kernel
theorem dX4_load_59 : decode cX4_load 59 = .ok (.aload_n 0, 1) := by decide +kernel
theorem dX4_load_60 : decode cX4_load 60 = .ok (.getfield 7, 3) := by decide +kernel
theorem dX4_load_63 : decode cX4_load 63 = .ok (.sipush 616, 3) := by decide +kernel
theorem dX4_load_66 : decode cX4_load 66 = .ok (.iload_n 2, 1) := by decide +kernel
theorem dX4_load_67 : decode cX4_load 67 = .ok (.iadd, 1) := by decide +kernel
theorem dX4_load_68 : decode cX4_load 68 = .ok (.iaload, 1) := by decide +kernel
theorem dX4_load_69 : decode cX4_load 69 = .ok (.if_icmp .eq 7, 3) := by decide +kernel
theorem dX4_load_72 : decode cX4_load 72 = .ok (.iconst 1, 1) := by decide +kernel
theorem dX4_load_73 : decode cX4_load 73 = .ok (.goto 4, 3) := by decide +kernel
theorem dX4_load_76 : decode cX4_load 76 = .ok (.iconst 0, 1) := by decide +kernel
theorem dX4_load_77 : decode cX4_load 77 = .ok (.iadd, 1) := by decide +kernel
theorem dX4_load_78 : decode cX4_load 78 = .ok (.istore_n 1, 1) := by decide +kernel
theorem dX4_load_79 : decode cX4_load 79 = .ok (.iinc 2 1, 3) := by decide +kernel
theorem dX4_load_82 : decode cX4_load 82 = .ok (.goto (-37), 3) := by decide +kernel
theorem dX4_load_85 : decode cX4_load 85 = .ok (.iload_n 1, 1) := by decide +kernel
theorem dX4_load_86 : decode cX4_load 86 = .ok (.ireturn, 1) := by decide +kernel
theorem dX4_keep_0 : decode cX4_keep 0 = .ok (.aload_n 0, 1) := by decide +kernel
theorem dX4_keep_1 : decode cX4_keep 1 = .ok (.iconst 0, 1) := by decide +kernel
theorem dX4_keep_2 : decode cX4_keep 2 = .ok (.putfield 35, 3) := by decide +kernel
theorem dX4_keep_5 : decode cX4_keep 5 = .ok (.iload_n 1, 1) := by decide +kernel
theorem dX4_keep_6 : decode cX4_keep 6 = .ok (.iconst 0, 1) := by decide +kernel
theorem dX4_keep_7 : decode cX4_keep 7 = .ok (.iconst 1, 1) := by decide +kernel
theorem dX4_keep_8 : decode cX4_keep 8 = .ok (.invokestatic 42, 3) := by decide +kernel
theorem dX4_keep_11 : decode cX4_keep 11 = .ok (.ifCond .ne 9, 3) := by decide +kernel
theorem dX4_keep_14 : decode cX4_keep 14 = .ok (.aload_n 0, 1) := by decide +kernel
theorem dX4_keep_15 : decode cX4_keep 15 = .ok (.iconst 1, 1) := by decide +kernel
theorem dX4_keep_16 : decode cX4_keep 16 = .ok (.invokevirtual 118, 3) := by decide +kernel
theorem dX4_keep_19 : decode cX4_keep 19 = .ok (.ireturn, 1) := by decide +kernel
theorem dX4_keep_20 : decode cX4_keep 20 = .ok (.iconst 0, 1) := by decide +kernel
theorem dX4_keep_21 : decode cX4_keep 21 = .ok (.istore_n 2, 1) := by decide +kernel
theorem dX4_keep_22 : decode cX4_keep 22 = .ok (.iload_n 2, 1) := by decide +kernel
theorem dX4_keep_23 : decode cX4_keep 23 = .ok (.sipush 904, 3) := by decide +kernel
theorem dX4_keep_26 : decode cX4_keep 26 = .ok (.if_icmp .ge 27, 3) := by decide +kernel
theorem dX4_keep_29 : decode cX4_keep 29 = .ok (.aload_n 0, 1) := by decide +kernel
theorem dX4_keep_30 : decode cX4_keep 30 = .ok (.getfield 16, 3) := by decide +kernel
theorem dX4_keep_33 : decode cX4_keep 33 = .ok (.sipush 904, 3) := by decide +kernel
theorem dX4_keep_36 : decode cX4_keep 36 = .ok (.iload_n 1, 1) := by decide +kernel
theorem dX4_keep_37 : decode cX4_keep 37 = .ok (.imul, 1) := by decide +kernel
theorem dX4_keep_38 : decode cX4_keep 38 = .ok (.iload_n 2, 1) := by decide +kernel
theorem dX4_keep_39 : decode cX4_keep 39 = .ok (.iadd, 1) := by decide +kernel
theorem dX4_keep_40 : decode cX4_keep 40 = .ok (.aload_n 0, 1) := by decide +kernel
theorem dX4_keep_41 : decode cX4_keep 41 = .ok (.getfield 7, 3) := by decide +kernel
theorem dX4_keep_44 : decode cX4_keep 44 = .ok (.iload_n 2, 1) := by decide +kernel
theorem dX4_keep_45 : decode cX4_keep 45 = .ok (.iaload, 1) := by decide +kernel
theorem dX4_keep_46 : decode cX4_keep 46 = .ok (.iastore, 1) := by decide +kernel
theorem dX4_keep_47 : decode cX4_keep 47 = .ok (.iinc 2 1, 3) := by decide +kernel
theorem dX4_keep_50 : decode cX4_keep 50 = .ok (.goto (-28), 3) := by decide +kernel
theorem dX4_keep_53 : decode cX4_keep 53 = .ok (.aload_n 0, 1) := by decide +kernel
theorem dX4_keep_54 : decode cX4_keep 54 = .ok (.getfield 19, 3) := by decide +kernel
theorem dX4_keep_57 : decode cX4_keep 57 = .ok (.iload_n 1, 1) := by decide +kernel
theorem dX4_keep_58 : decode cX4_keep 58 = .ok (.iconst 1, 1) := by decide +kernel
theorem dX4_keep_59 : decode cX4_keep 59 = .ok (.bastore, 1) := by decide +kernel
theorem dX4_keep_60 : decode cX4_keep 60 = .ok (.aload_n 0, 1) := by decide +kernel
theorem dX4_keep_61 : decode cX4_keep 61 = .ok (.getfield 7, 3) := by decide +kernel
theorem dX4_keep_64 : decode cX4_keep 64 = .ok (.bipush 15, 2) := by decide +kernel
theorem dX4_keep_66 : decode cX4_keep 66 = .ok (.iaload, 1) := by decide +kernel
theorem dX4_keep_67 : decode cX4_keep 67 = .ok (.ireturn, 1) := by decide +kernel
theorem dX4_goBack_0 : decode cX4_goBack 0 = .ok (.aload_n 0, 1) := by decide +kernel
theorem dX4_goBack_1 : decode cX4_goBack 1 = .ok (.iconst 0, 1) := by decide +kernel
theorem dX4_goBack_2 : decode cX4_goBack 2 = .ok (.putfield 35, 3) := by decide +kernel
theorem dX4_goBack_5 : decode cX4_goBack 5 = .ok (.iload_n 1, 1) := by decide +kernel
theorem dX4_goBack_6 : decode cX4_goBack 6 = .ok (.iconst 0, 1) := by decide +kernel
theorem dX4_goBack_7 : decode cX4_goBack 7 = .ok (.iconst 1, 1) := by decide +kernel
theorem dX4_goBack_8 : decode cX4_goBack 8 = .ok (.invokestatic 42, 3) := by decide +kernel
theorem dX4_goBack_11 : decode cX4_goBack 11 = .ok (.ifCond .ne 9, 3) := by decide +kernel
theorem dX4_goBack_14 : decode cX4_goBack 14 = .ok (.aload_n 0, 1) := by decide +kernel
theorem dX4_goBack_15 : decode cX4_goBack 15 = .ok (.iconst 1, 1) := by decide +kernel
theorem dX4_goBack_16 : decode cX4_goBack 16 = .ok (.invokevirtual 118, 3) := by decide +kernel
theorem dX4_goBack_19 : decode cX4_goBack 19 = .ok (.ireturn, 1) := by decide +kernel
theorem dX4_goBack_20 : decode cX4_goBack 20 = .ok (.aload_n 0, 1) := by decide +kernel
theorem dX4_goBack_21 : decode cX4_goBack 21 = .ok (.getfield 19, 3) := by decide +kernel
theorem dX4_goBack_24 : decode cX4_goBack 24 = .ok (.iload_n 1, 1) := by decide +kernel
theorem dX4_goBack_25 : decode cX4_goBack 25 = .ok (.baload, 1) := by decide +kernel
theorem dX4_goBack_26 : decode cX4_goBack 26 = .ok (.ifCond .ne 9, 3) := by decide +kernel
theorem dX4_goBack_29 : decode cX4_goBack 29 = .ok (.aload_n 0, 1) := by decide +kernel
theorem dX4_goBack_30 : decode cX4_goBack 30 = .ok (.iconst 2, 1) := by decide +kernel
theorem dX4_goBack_31 : decode cX4_goBack 31 = .ok (.invokevirtual 118, 3) := by decide +kernel
theorem dX4_goBack_34 : decode cX4_goBack 34 = .ok (.ireturn, 1) := by decide +kernel
theorem dX4_goBack_35 : decode cX4_goBack 35 = .ok (.aload_n 0, 1) := by decide +kernel
theorem dX4_goBack_36 : decode cX4_goBack 36 = .ok (.invokevirtual 121, 3) := by decide +kernel
theorem dX4_goBack_39 : decode cX4_goBack 39 = .ok (.iconst 0, 1) := by decide +kernel
theorem dX4_goBack_40 : decode cX4_goBack 40 = .ok (.istore_n 2, 1) := by decide +kernel
theorem dX4_goBack_41 : decode cX4_goBack 41 = .ok (.iload_n 2, 1) := by decide +kernel
theorem dX4_goBack_42 : decode cX4_goBack 42 = .ok (.sipush 904, 3) := by decide +kernel
theorem dX4_goBack_45 : decode cX4_goBack 45 = .ok (.if_icmp .ge 27, 3) := by decide +kernel
theorem dX4_goBack_48 : decode cX4_goBack 48 = .ok (.aload_n 0, 1) := by decide +kernel
theorem dX4_goBack_49 : decode cX4_goBack 49 = .ok (.getfield 7, 3) := by decide +kernel
theorem dX4_goBack_52 : decode cX4_goBack 52 = .ok (.iload_n 2, 1) := by decide +kernel
theorem dX4_goBack_53 : decode cX4_goBack 53 = .ok (.aload_n 0, 1) := by decide +kernel
theorem dX4_goBack_54 : decode cX4_goBack 54 = .ok (.getfield 16, 3) := by decide +kernel
theorem dX4_goBack_57 : decode cX4_goBack 57 = .ok (.sipush 904, 3) := by decide +kernel
theorem dX4_goBack_60 : decode cX4_goBack 60 = .ok (.iload_n 1, 1) := by decide +kernel
theorem dX4_goBack_61 : decode cX4_goBack 61 = .ok (.imul, 1) := by decide +kernel
theorem dX4_goBack_62 : decode cX4_goBack 62 = .ok (.iload_n 2, 1) := by decide +kernel
theorem dX4_goBack_63 : decode cX4_goBack 63 = .ok (.iadd, 1) := by decide +kernel
theorem dX4_goBack_64 : decode cX4_goBack 64 = .ok (.iaload, 1) := by decide +kernel
theorem dX4_goBack_65 : decode cX4_goBack 65 = .ok (.iastore, 1) := by decide +kernel
theorem dX4_goBack_66 : decode cX4_goBack 66 = .ok (.iinc 2 1, 3) := by decide +kernel
theorem dX4_goBack_69 : decode cX4_goBack 69 = .ok (.goto (-28), 3) := by decide +kernel
theorem dX4_goBack_72 : decode cX4_goBack 72 = .ok (.aload_n 0, 1) := by decide +kernel
theorem dX4_goBack_73 : decode cX4_goBack 73 = .ok (.getfield 7, 3) := by decide +kernel
theorem dX4_goBack_76 : decode cX4_goBack 76 = .ok (.bipush 15, 2) := by decide +kernel
theorem dX4_goBack_78 : decode cX4_goBack 78 = .ok (.iaload, 1) := by decide +kernel
theorem dX4_goBack_79 : decode cX4_goBack 79 = .ok (.ireturn, 1) := by decide +kernel
theorem dX4_undo_0 : decode cX4_undo 0 = .ok (.aload_n 0, 1) := by decide +kernel
theorem dX4_undo_1 : decode cX4_undo 1 = .ok (.iconst 0, 1) := by decide +kernel
theorem dX4_undo_2 : decode cX4_undo 2 = .ok (.putfield 35, 3) := by decide +kernel
theorem dX4_undo_5 : decode cX4_undo 5 = .ok (.aload_n 0, 1) := by decide +kernel
theorem dX4_undo_6 : decode cX4_undo 6 = .ok (.getfield 39, 3) := by decide +kernel
theorem dX4_undo_9 : decode cX4_undo 9 = .ok (.ifCond .ne 9, 3) := by decide +kernel
theorem dX4_undo_12 : decode cX4_undo 12 = .ok (.aload_n 0, 1) := by decide +kernel
theorem dX4_undo_13 : decode cX4_undo 13 = .ok (.iconst 1, 1) := by decide +kernel
theorem dX4_undo_14 : decode cX4_undo 14 = .ok (.invokevirtual 118, 3) := by decide +kernel
theorem dX4_undo_17 : decode cX4_undo 17 = .ok (.ireturn, 1) := by decide +kernel
theorem dX4_undo_18 : decode cX4_undo 18 = .ok (.aload_n 0, 1) := by decide +kernel
theorem dX4_undo_19 : decode cX4_undo 19 = .ok (.dup, 1) := by decide +kernel
theorem dX4_undo_20 : decode cX4_undo 20 = .ok (.getfield 39, 3) := by decide +kernel
theorem dX4_undo_23 : decode cX4_undo 23 = .ok (.iconst 1, 1) := by decide +kernel
theorem dX4_undo_24 : decode cX4_undo 24 = .ok (.isub, 1) := by decide +kernel
theorem dX4_undo_25 : decode cX4_undo 25 = .ok (.putfield 39, 3) := by decide +kernel
theorem dX4_undo_28 : decode cX4_undo 28 = .ok (.iconst 0, 1) := by decide +kernel
theorem dX4_undo_29 : decode cX4_undo 29 = .ok (.istore_n 1, 1) := by decide +kernel
theorem dX4_undo_30 : decode cX4_undo 30 = .ok (.iload_n 1, 1) := by decide +kernel
theorem dX4_undo_31 : decode cX4_undo 31 = .ok (.sipush 904, 3) := by decide +kernel
theorem dX4_undo_34 : decode cX4_undo 34 = .ok (.if_icmp .ge 30, 3) := by decide +kernel
theorem dX4_undo_37 : decode cX4_undo 37 = .ok (.aload_n 0, 1) := by decide +kernel
theorem dX4_undo_38 : decode cX4_undo 38 = .ok (.getfield 7, 3) := by decide +kernel
theorem dX4_undo_41 : decode cX4_undo 41 = .ok (.iload_n 1, 1) := by decide +kernel
theorem dX4_undo_42 : decode cX4_undo 42 = .ok (.aload_n 0, 1) := by decide +kernel
theorem dX4_undo_43 : decode cX4_undo 43 = .ok (.getfield 13, 3) := by decide +kernel
theorem dX4_undo_46 : decode cX4_undo 46 = .ok (.sipush 904, 3) := by decide +kernel
theorem dX4_undo_49 : decode cX4_undo 49 = .ok (.aload_n 0, 1) := by decide +kernel
theorem dX4_undo_50 : decode cX4_undo 50 = .ok (.getfield 39, 3) := by decide +kernel
theorem dX4_undo_53 : decode cX4_undo 53 = .ok (.imul, 1) := by decide +kernel
theorem dX4_undo_54 : decode cX4_undo 54 = .ok (.iload_n 1, 1) := by decide +kernel
theorem dX4_undo_55 : decode cX4_undo 55 = .ok (.iadd, 1) := by decide +kernel
theorem dX4_undo_56 : decode cX4_undo 56 = .ok (.iaload, 1) := by decide +kernel
theorem dX4_undo_57 : decode cX4_undo 57 = .ok (.iastore, 1) := by decide +kernel
theorem dX4_undo_58 : decode cX4_undo 58 = .ok (.iinc 1 1, 3) := by decide +kernel
theorem dX4_undo_61 : decode cX4_undo 61 = .ok (.goto (-31), 3) := by decide +kernel
theorem dX4_undo_64 : decode cX4_undo 64 = .ok (.aload_n 0, 1) := by decide +kernel
theorem dX4_undo_65 : decode cX4_undo 65 = .ok (.getfield 39, 3) := by decide +kernel
theorem dX4_undo_68 : decode cX4_undo 68 = .ok (.ireturn, 1) := by decide +kernel
theorem dX4_ends_0 : decode cX4_ends 0 = .ok (.iconst 0, 1) := by decide +kernel
theorem dX4_ends_1 : decode cX4_ends 1 = .ok (.istore_n 2, 1) := by decide +kernel
theorem dX4_ends_2 : decode cX4_ends 2 = .ok (.iconst 0, 1) := by decide +kernel
theorem dX4_ends_3 : decode cX4_ends 3 = .ok (.istore_n 3, 1) := by decide +kernel
theorem dX4_ends_4 : decode cX4_ends 4 = .ok (.iload_n 3, 1) := by decide +kernel
theorem dX4_ends_5 : decode cX4_ends 5 = .ok (.aload_n 0, 1) := by decide +kernel
theorem dX4_ends_6 : decode cX4_ends 6 = .ok (.getfield 7, 3) := by decide +kernel
theorem dX4_ends_9 : decode cX4_ends 9 = .ok (.bipush 15, 2) := by decide +kernel
theorem dX4_ends_11 : decode cX4_ends 11 = .ok (.iaload, 1) := by decide +kernel
theorem dX4_ends_12 : decode cX4_ends 12 = .ok (.if_icmp .ge 45, 3) := by decide +kernel
theorem dX4_ends_15 : decode cX4_ends 15 = .ok (.iload_n 2, 1) := by decide +kernel
theorem dX4_ends_16 : decode cX4_ends 16 = .ok (.aload_n 0, 1) := by decide +kernel
theorem dX4_ends_17 : decode cX4_ends 17 = .ok (.iload_n 3, 1) := by decide +kernel
theorem dX4_ends_18 : decode cX4_ends 18 = .ok (.iconst 0, 1) := by decide +kernel
theorem dX4_ends_19 : decode cX4_ends 19 = .ok (.invokevirtual 78, 3) := by decide +kernel
theorem dX4_ends_22 : decode cX4_ends 22 = .ok (.iload_n 1, 1) := by decide +kernel
theorem dX4_ends_23 : decode cX4_ends 23 = .ok (.if_icmp .ne 7, 3) := by decide +kernel
theorem dX4_ends_26 : decode cX4_ends 26 = .ok (.iconst 1, 1) := by decide +kernel
theorem dX4_ends_27 : decode cX4_ends 27 = .ok (.goto 4, 3) := by decide +kernel
theorem dX4_ends_30 : decode cX4_ends 30 = .ok (.iconst 0, 1) := by decide +kernel
theorem dX4_ends_31 : decode cX4_ends 31 = .ok (.iadd, 1) := by decide +kernel
theorem dX4_ends_32 : decode cX4_ends 32 = .ok (.istore_n 2, 1) := by decide +kernel
theorem dX4_ends_33 : decode cX4_ends 33 = .ok (.iload_n 2, 1) := by decide +kernel
theorem dX4_ends_34 : decode cX4_ends 34 = .ok (.aload_n 0, 1) := by decide +kernel
theorem dX4_ends_35 : decode cX4_ends 35 = .ok (.iload_n 3, 1) := by decide +kernel
theorem dX4_ends_36 : decode cX4_ends 36 = .ok (.iconst 1, 1) := by decide +kernel
theorem dX4_ends_37 : decode cX4_ends 37 = .ok (.invokevirtual 78, 3) := by decide +kernel
theorem dX4_ends_40 : decode cX4_ends 40 = .ok (.iload_n 1, 1) := by decide +kernel
theorem dX4_ends_41 : decode cX4_ends 41 = .ok (.if_icmp .ne 7, 3) := by decide +kernel
theorem dX4_ends_44 : decode cX4_ends 44 = .ok (.iconst 1, 1) := by decide +kernel
theorem dX4_ends_45 : decode cX4_ends 45 = .ok (.goto 4, 3) := by decide +kernel
theorem dX4_ends_48 : decode cX4_ends 48 = .ok (.iconst 0, 1) := by decide +kernel
theorem dX4_ends_49 : decode cX4_ends 49 = .ok (.iadd, 1) := by decide +kernel
theorem dX4_ends_50 : decode cX4_ends 50 = .ok (.istore_n 2, 1) := by decide +kernel
theorem dX4_ends_51 : decode cX4_ends 51 = .ok (.iinc 3 1, 3) := by decide +kernel
theorem dX4_ends_54 : decode cX4_ends 54 = .ok (.goto (-50), 3) := by decide +kernel
theorem dX4_ends_57 : decode cX4_ends 57 = .ok (.iload_n 2, 1) := by decide +kernel
theorem dX4_ends_58 : decode cX4_ends 58 = .ok (.ireturn, 1) := by decide +kernel
theorem dX4_tellsNail_0 : decode cX4_tellsNail 0 = .ok (.iload_n 2, 1) := by decide +kernel
theorem dX4_tellsNail_1 : decode cX4_tellsNail 1 = .ok (.tableswitch 45 0 2 #[27, 33, 39], 27) := by decide +kernel
theorem dX4_tellsNail_28 : decode cX4_tellsNail 28 = .ok (.aload_n 0, 1) := by decide +kernel
theorem dX4_tellsNail_29 : decode cX4_tellsNail 29 = .ok (.iload_n 1, 1) := by decide +kernel
theorem dX4_tellsNail_30 : decode cX4_tellsNail 30 = .ok (.invokevirtual 53, 3) := by decide +kernel
theorem dX4_tellsNail_33 : decode cX4_tellsNail 33 = .ok (.ireturn, 1) := by decide +kernel
theorem dX4_tellsNail_34 : decode cX4_tellsNail 34 = .ok (.aload_n 0, 1) := by decide +kernel
theorem dX4_tellsNail_35 : decode cX4_tellsNail 35 = .ok (.iload_n 1, 1) := by decide +kernel
theorem dX4_tellsNail_36 : decode cX4_tellsNail 36 = .ok (.invokevirtual 56, 3) := by decide +kernel
theorem dX4_tellsNail_39 : decode cX4_tellsNail 39 = .ok (.ireturn, 1) := by decide +kernel
theorem dX4_tellsNail_40 : decode cX4_tellsNail 40 = .ok (.aload_n 0, 1) := by decide +kernel
theorem dX4_tellsNail_41 : decode cX4_tellsNail 41 = .ok (.iload_n 1, 1) := by decide +kernel
theorem dX4_tellsNail_42 : decode cX4_tellsNail 42 = .ok (.invokevirtual 187, 3) := by decide +kernel
theorem dX4_tellsNail_45 : decode cX4_tellsNail 45 = .ok (.ireturn, 1) := by decide +kernel
theorem dX4_tellsNail_46 : decode cX4_tellsNail 46 = .ok (.aload_n 0, 1) := by decide +kernel
theorem dX4_tellsNail_47 : decode cX4_tellsNail 47 = .ok (.getfield 7, 3) := by decide +kernel
theorem dX4_tellsNail_50 : decode cX4_tellsNail 50 = .ok (.iconst 1, 1) := by decide +kernel
theorem dX4_tellsNail_51 : decode cX4_tellsNail 51 = .ok (.iaload, 1) := by decide +kernel
theorem dX4_tellsNail_52 : decode cX4_tellsNail 52 = .ok (.iload_n 1, 1) := by decide +kernel
theorem dX4_tellsNail_53 : decode cX4_tellsNail 53 = .ok (.if_icmp .ne 7, 3) := by decide +kernel
theorem dX4_tellsNail_56 : decode cX4_tellsNail 56 = .ok (.iconst 1, 1) := by decide +kernel
theorem dX4_tellsNail_57 : decode cX4_tellsNail 57 = .ok (.goto 4, 3) := by decide +kernel
theorem dX4_tellsNail_60 : decode cX4_tellsNail 60 = .ok (.iconst 0, 1) := by decide +kernel
theorem dX4_tellsNail_61 : decode cX4_tellsNail 61 = .ok (.ireturn, 1) := by decide +kernel
theorem dX4_nailOf_0 : decode cX4_nailOf 0 = .ok (.aload_n 0, 1) := by decide +kernel
theorem dX4_nailOf_1 : decode cX4_nailOf 1 = .ok (.iconst 0, 1) := by decide +kernel
theorem dX4_nailOf_2 : decode cX4_nailOf 2 = .ok (.putfield 35, 3) := by decide +kernel
theorem dX4_nailOf_5 : decode cX4_nailOf 5 = .ok (.aload_n 0, 1) := by decide +kernel
theorem dX4_nailOf_6 : decode cX4_nailOf 6 = .ok (.iload_n 1, 1) := by decide +kernel
theorem dX4_nailOf_7 : decode cX4_nailOf 7 = .ok (.invokevirtual 134, 3) := by decide +kernel
theorem dX4_nailOf_10 : decode cX4_nailOf 10 = .ok (.ifCond .ne 9, 3) := by decide +kernel
theorem dX4_nailOf_13 : decode cX4_nailOf 13 = .ok (.aload_n 0, 1) := by decide +kernel
theorem dX4_nailOf_14 : decode cX4_nailOf 14 = .ok (.iconst 1, 1) := by decide +kernel
theorem dX4_nailOf_15 : decode cX4_nailOf 15 = .ok (.invokevirtual 118, 3) := by decide +kernel
theorem dX4_nailOf_18 : decode cX4_nailOf 18 = .ok (.ireturn, 1) := by decide +kernel
theorem dX4_nailOf_19 : decode cX4_nailOf 19 = .ok (.iload_n 2, 1) := by decide +kernel
theorem dX4_nailOf_20 : decode cX4_nailOf 20 = .ok (.iconst 0, 1) := by decide +kernel
theorem dX4_nailOf_21 : decode cX4_nailOf 21 = .ok (.iconst 3, 1) := by decide +kernel
theorem dX4_nailOf_22 : decode cX4_nailOf 22 = .ok (.invokestatic 42, 3) := by decide +kernel
theorem dX4_nailOf_25 : decode cX4_nailOf 25 = .ok (.ifCond .eq 12, 3) := by decide +kernel
theorem dX4_nailOf_28 : decode cX4_nailOf 28 = .ok (.aload_n 0, 1) := by decide +kernel
theorem dX4_nailOf_29 : decode cX4_nailOf 29 = .ok (.iload_n 1, 1) := by decide +kernel
theorem dX4_nailOf_30 : decode cX4_nailOf 30 = .ok (.iload_n 2, 1) := by decide +kernel
theorem dX4_nailOf_31 : decode cX4_nailOf 31 = .ok (.invokevirtual 190, 3) := by decide +kernel
theorem dX4_nailOf_34 : decode cX4_nailOf 34 = .ok (.goto 8, 3) := by decide +kernel
theorem dX4_nailOf_37 : decode cX4_nailOf 37 = .ok (.aload_n 0, 1) := by decide +kernel
theorem dX4_nailOf_38 : decode cX4_nailOf 38 = .ok (.iconst 2, 1) := by decide +kernel
theorem dX4_nailOf_39 : decode cX4_nailOf 39 = .ok (.invokevirtual 118, 3) := by decide +kernel
theorem dX4_nailOf_42 : decode cX4_nailOf 42 = .ok (.ireturn, 1) := by decide +kernel
theorem dX4_threadOf_0 : decode cX4_threadOf 0 = .ok (.iconst 0, 1) := by decide +kernel
theorem dX4_threadOf_1 : decode cX4_threadOf 1 = .ok (.istore_n 2, 1) := by decide +kernel
theorem dX4_threadOf_2 : decode cX4_threadOf 2 = .ok (.iconst 0, 1) := by decide +kernel
theorem dX4_threadOf_3 : decode cX4_threadOf 3 = .ok (.istore_n 3, 1) := by decide +kernel
theorem dX4_threadOf_4 : decode cX4_threadOf 4 = .ok (.iload_n 3, 1) := by decide +kernel
theorem dX4_threadOf_5 : decode cX4_threadOf 5 = .ok (.aload_n 0, 1) := by decide +kernel
theorem dX4_threadOf_6 : decode cX4_threadOf 6 = .ok (.getfield 7, 3) := by decide +kernel
theorem dX4_threadOf_9 : decode cX4_threadOf 9 = .ok (.bipush 15, 2) := by decide +kernel
theorem dX4_threadOf_11 : decode cX4_threadOf 11 = .ok (.iaload, 1) := by decide +kernel
theorem dX4_threadOf_12 : decode cX4_threadOf 12 = .ok (.if_icmp .ge 42, 3) := by decide +kernel
theorem dX4_threadOf_15 : decode cX4_threadOf 15 = .ok (.iload_n 2, 1) := by decide +kernel
theorem dX4_threadOf_16 : decode cX4_threadOf 16 = .ok (.aload_n 0, 1) := by decide +kernel
theorem dX4_threadOf_17 : decode cX4_threadOf 17 = .ok (.iload_n 3, 1) := by decide +kernel
theorem dX4_threadOf_18 : decode cX4_threadOf 18 = .ok (.iconst 2, 1) := by decide +kernel
theorem dX4_threadOf_19 : decode cX4_threadOf 19 = .ok (.invokevirtual 78, 3) := by decide +kernel
theorem dX4_threadOf_22 : decode cX4_threadOf 22 = .ok (.iload_n 1, 1) := by decide +kernel
theorem dX4_threadOf_23 : decode cX4_threadOf 23 = .ok (.if_icmp .ne 22, 3) := by decide +kernel
theorem dX4_threadOf_26 : decode cX4_threadOf 26 = .ok (.aload_n 0, 1) := by decide +kernel
theorem dX4_threadOf_27 : decode cX4_threadOf 27 = .ok (.aload_n 0, 1) := by decide +kernel
theorem dX4_threadOf_28 : decode cX4_threadOf 28 = .ok (.iload_n 3, 1) := by decide +kernel
theorem dX4_threadOf_29 : decode cX4_threadOf 29 = .ok (.iconst 0, 1) := by decide +kernel
theorem dX4_threadOf_30 : decode cX4_threadOf 30 = .ok (.invokevirtual 78, 3) := by decide +kernel
theorem dX4_threadOf_33 : decode cX4_threadOf 33 = .ok (.aload_n 0, 1) := by decide +kernel
theorem dX4_threadOf_34 : decode cX4_threadOf 34 = .ok (.iload_n 3, 1) := by decide +kernel
theorem dX4_threadOf_35 : decode cX4_threadOf 35 = .ok (.iconst 1, 1) := by decide +kernel
theorem dX4_threadOf_36 : decode cX4_threadOf 36 = .ok (.invokevirtual 78, 3) := by decide +kernel
theorem dX4_threadOf_39 : decode cX4_threadOf 39 = .ok (.invokevirtual 95, 3) := by decide +kernel
theorem dX4_threadOf_42 : decode cX4_threadOf 42 = .ok (.goto 4, 3) := by decide +kernel
theorem dX4_threadOf_45 : decode cX4_threadOf 45 = .ok (.iconst 0, 1) := by decide +kernel
theorem dX4_threadOf_46 : decode cX4_threadOf 46 = .ok (.iadd, 1) := by decide +kernel
theorem dX4_threadOf_47 : decode cX4_threadOf 47 = .ok (.istore_n 2, 1) := by decide +kernel
theorem dX4_threadOf_48 : decode cX4_threadOf 48 = .ok (.iinc 3 1, 3) := by decide +kernel
theorem dX4_threadOf_51 : decode cX4_threadOf 51 = .ok (.goto (-47), 3) := by decide +kernel
theorem dX4_threadOf_54 : decode cX4_threadOf 54 = .ok (.iload_n 2, 1) := by decide +kernel
theorem dX4_threadOf_55 : decode cX4_threadOf 55 = .ok (.ireturn, 1) := by decide +kernel
theorem dX4_tellsSpool_0 : decode cX4_tellsSpool 0 = .ok (.iload_n 2, 1) := by decide +kernel
theorem dX4_tellsSpool_1 : decode cX4_tellsSpool 1 = .ok (.tableswitch 55 0 3 #[31, 37, 43, 49], 31) := by decide +kernel
theorem dX4_tellsSpool_32 : decode cX4_tellsSpool 32 = .ok (.aload_n 0, 1) := by decide +kernel
theorem dX4_tellsSpool_33 : decode cX4_tellsSpool 33 = .ok (.iload_n 1, 1) := by decide +kernel
theorem dX4_tellsSpool_34 : decode cX4_tellsSpool 34 = .ok (.invokevirtual 88, 3) := by decide +kernel
theorem dX4_tellsSpool_37 : decode cX4_tellsSpool 37 = .ok (.ireturn, 1) := by decide +kernel
theorem dX4_tellsSpool_38 : decode cX4_tellsSpool 38 = .ok (.aload_n 0, 1) := by decide +kernel
theorem dX4_tellsSpool_39 : decode cX4_tellsSpool 39 = .ok (.iload_n 1, 1) := by decide +kernel
theorem dX4_tellsSpool_40 : decode cX4_tellsSpool 40 = .ok (.invokevirtual 101, 3) := by decide +kernel
theorem dX4_tellsSpool_43 : decode cX4_tellsSpool 43 = .ok (.ireturn, 1) := by decide +kernel
theorem dX4_tellsSpool_44 : decode cX4_tellsSpool 44 = .ok (.aload_n 0, 1) := by decide +kernel
theorem dX4_tellsSpool_45 : decode cX4_tellsSpool 45 = .ok (.iload_n 1, 1) := by decide +kernel
theorem dX4_tellsSpool_46 : decode cX4_tellsSpool 46 = .ok (.invokevirtual 193, 3) := by decide +kernel
theorem dX4_tellsSpool_49 : decode cX4_tellsSpool 49 = .ok (.ireturn, 1) := by decide +kernel
theorem dX4_tellsSpool_50 : decode cX4_tellsSpool 50 = .ok (.aload_n 0, 1) := by decide +kernel
theorem dX4_tellsSpool_51 : decode cX4_tellsSpool 51 = .ok (.iload_n 1, 1) := by decide +kernel
theorem dX4_tellsSpool_52 : decode cX4_tellsSpool 52 = .ok (.invokevirtual 131, 3) := by decide +kernel
theorem dX4_tellsSpool_55 : decode cX4_tellsSpool 55 = .ok (.ireturn, 1) := by decide +kernel
theorem dX4_tellsSpool_56 : decode cX4_tellsSpool 56 = .ok (.aload_n 0, 1) := by decide +kernel
theorem dX4_tellsSpool_57 : decode cX4_tellsSpool 57 = .ok (.getfield 7, 3) := by decide +kernel
theorem dX4_tellsSpool_60 : decode cX4_tellsSpool 60 = .ok (.iconst 2, 1) := by decide +kernel
theorem dX4_tellsSpool_61 : decode cX4_tellsSpool 61 = .ok (.iaload, 1) := by decide +kernel
theorem dX4_tellsSpool_62 : decode cX4_tellsSpool 62 = .ok (.iload_n 1, 1) := by decide +kernel
theorem dX4_tellsSpool_63 : decode cX4_tellsSpool 63 = .ok (.if_icmp .ne 7, 3) := by decide +kernel
theorem dX4_tellsSpool_66 : decode cX4_tellsSpool 66 = .ok (.iconst 1, 1) := by decide +kernel
theorem dX4_tellsSpool_67 : decode cX4_tellsSpool 67 = .ok (.goto 4, 3) := by decide +kernel
theorem dX4_tellsSpool_70 : decode cX4_tellsSpool 70 = .ok (.iconst 0, 1) := by decide +kernel
theorem dX4_tellsSpool_71 : decode cX4_tellsSpool 71 = .ok (.ireturn, 1) := by decide +kernel
theorem dX4_spoolOf_0 : decode cX4_spoolOf 0 = .ok (.aload_n 0, 1) := by decide +kernel
theorem dX4_spoolOf_1 : decode cX4_spoolOf 1 = .ok (.iconst 0, 1) := by decide +kernel
theorem dX4_spoolOf_2 : decode cX4_spoolOf 2 = .ok (.putfield 35, 3) := by decide +kernel
theorem dX4_spoolOf_5 : decode cX4_spoolOf 5 = .ok (.iload_n 1, 1) := by decide +kernel
theorem dX4_spoolOf_6 : decode cX4_spoolOf 6 = .ok (.invokestatic 127, 3) := by decide +kernel
theorem dX4_spoolOf_9 : decode cX4_spoolOf 9 = .ok (.ifCond .ne 9, 3) := by decide +kernel
theorem dX4_spoolOf_12 : decode cX4_spoolOf 12 = .ok (.aload_n 0, 1) := by decide +kernel
theorem dX4_spoolOf_13 : decode cX4_spoolOf 13 = .ok (.iconst 1, 1) := by decide +kernel
theorem dX4_spoolOf_14 : decode cX4_spoolOf 14 = .ok (.invokevirtual 118, 3) := by decide +kernel
theorem dX4_spoolOf_17 : decode cX4_spoolOf 17 = .ok (.ireturn, 1) := by decide +kernel
theorem dX4_spoolOf_18 : decode cX4_spoolOf 18 = .ok (.iload_n 2, 1) := by decide +kernel
theorem dX4_spoolOf_19 : decode cX4_spoolOf 19 = .ok (.iconst 0, 1) := by decide +kernel
theorem dX4_spoolOf_20 : decode cX4_spoolOf 20 = .ok (.iconst 4, 1) := by decide +kernel
theorem dX4_spoolOf_21 : decode cX4_spoolOf 21 = .ok (.invokestatic 42, 3) := by decide +kernel
theorem dX4_spoolOf_24 : decode cX4_spoolOf 24 = .ok (.ifCond .eq 12, 3) := by decide +kernel
theorem dX4_spoolOf_27 : decode cX4_spoolOf 27 = .ok (.aload_n 0, 1) := by decide +kernel
theorem dX4_spoolOf_28 : decode cX4_spoolOf 28 = .ok (.iload_n 1, 1) := by decide +kernel
theorem dX4_spoolOf_29 : decode cX4_spoolOf 29 = .ok (.iload_n 2, 1) := by decide +kernel
theorem dX4_spoolOf_30 : decode cX4_spoolOf 30 = .ok (.invokevirtual 196, 3) := by decide +kernel
theorem dX4_spoolOf_33 : decode cX4_spoolOf 33 = .ok (.goto 8, 3) := by decide +kernel
theorem dX4_spoolOf_36 : decode cX4_spoolOf 36 = .ok (.aload_n 0, 1) := by decide +kernel
theorem dX4_spoolOf_37 : decode cX4_spoolOf 37 = .ok (.iconst 2, 1) := by decide +kernel
theorem dX4_spoolOf_38 : decode cX4_spoolOf 38 = .ok (.invokevirtual 118, 3) := by decide +kernel
theorem dX4_spoolOf_41 : decode cX4_spoolOf 41 = .ok (.ireturn, 1) := by decide +kernel
theorem dX4_tellsChord_0 : decode cX4_tellsChord 0 = .ok (.iload_n 1, 1) := by decide +kernel
theorem dX4_tellsChord_1 : decode cX4_tellsChord 1 = .ok (.iload_n 2, 1) := by decide +kernel
theorem dX4_tellsChord_2 : decode cX4_tellsChord 2 = .ok (.if_icmp .ne 5, 3) := by decide +kernel
theorem dX4_tellsChord_5 : decode cX4_tellsChord 5 = .ok (.iconst (-1), 1) := by decide +kernel
theorem dX4_tellsChord_6 : decode cX4_tellsChord 6 = .ok (.ireturn, 1) := by decide +kernel
theorem dX4_tellsChord_7 : decode cX4_tellsChord 7 = .ok (.aload_n 0, 1) := by decide +kernel
theorem dX4_tellsChord_8 : decode cX4_tellsChord 8 = .ok (.iload_n 1, 1) := by decide +kernel
theorem dX4_tellsChord_9 : decode cX4_tellsChord 9 = .ok (.iload_n 2, 1) := by decide +kernel
theorem dX4_tellsChord_10 : decode cX4_tellsChord 10 = .ok (.invokevirtual 85, 3) := by decide +kernel
theorem dX4_tellsChord_13 : decode cX4_tellsChord 13 = .ok (.iload_n 3, 1) := by decide +kernel
theorem dX4_tellsChord_14 : decode cX4_tellsChord 14 = .ok (.ifCond .ne 12, 3) := by decide +kernel
theorem dX4_tellsChord_17 : decode cX4_tellsChord 17 = .ok (.aload_n 0, 1) := by decide +kernel
theorem dX4_tellsChord_18 : decode cX4_tellsChord 18 = .ok (.iload_n 1, 1) := by decide +kernel
theorem dX4_tellsChord_19 : decode cX4_tellsChord 19 = .ok (.iload_n 2, 1) := by decide +kernel
theorem dX4_tellsChord_20 : decode cX4_tellsChord 20 = .ok (.invokevirtual 95, 3) := by decide +kernel
theorem dX4_tellsChord_23 : decode cX4_tellsChord 23 = .ok (.goto 21, 3) := by decide +kernel
theorem dX4_tellsChord_26 : decode cX4_tellsChord 26 = .ok (.iload_n 3, 1) := by decide +kernel
theorem dX4_tellsChord_27 : decode cX4_tellsChord 27 = .ok (.iconst 1, 1) := by decide +kernel
theorem dX4_tellsChord_28 : decode cX4_tellsChord 28 = .ok (.if_icmp .ne 10, 3) := by decide +kernel
theorem dX4_tellsChord_31 : decode cX4_tellsChord 31 = .ok (.aload_n 0, 1) := by decide +kernel
theorem dX4_tellsChord_32 : decode cX4_tellsChord 32 = .ok (.getfield 68, 3) := by decide +kernel
theorem dX4_tellsChord_35 : decode cX4_tellsChord 35 = .ok (.goto 9, 3) := by decide +kernel
theorem dX4_tellsChord_38 : decode cX4_tellsChord 38 = .ok (.aload_n 0, 1) := by decide +kernel
theorem dX4_tellsChord_39 : decode cX4_tellsChord 39 = .ok (.iload_n 1, 1) := by decide +kernel
theorem dX4_tellsChord_40 : decode cX4_tellsChord 40 = .ok (.iload_n 2, 1) := by decide +kernel
theorem dX4_tellsChord_41 : decode cX4_tellsChord 41 = .ok (.invokevirtual 98, 3) := by decide +kernel
theorem dX4_tellsChord_44 : decode cX4_tellsChord 44 = .ok (.ireturn, 1) := by decide +kernel
theorem dX4_chord_0 : decode cX4_chord 0 = .ok (.aload_n 0, 1) := by decide +kernel
theorem dX4_chord_1 : decode cX4_chord 1 = .ok (.iconst 0, 1) := by decide +kernel
theorem dX4_chord_2 : decode cX4_chord 2 = .ok (.putfield 35, 3) := by decide +kernel
theorem dX4_chord_5 : decode cX4_chord 5 = .ok (.aload_n 0, 1) := by decide +kernel
theorem dX4_chord_6 : decode cX4_chord 6 = .ok (.iload_n 1, 1) := by decide +kernel
theorem dX4_chord_7 : decode cX4_chord 7 = .ok (.invokevirtual 134, 3) := by decide +kernel
theorem dX4_chord_10 : decode cX4_chord 10 = .ok (.ifCond .eq 11, 3) := by decide +kernel
theorem dX4_chord_13 : decode cX4_chord 13 = .ok (.aload_n 0, 1) := by decide +kernel
theorem dX4_chord_14 : decode cX4_chord 14 = .ok (.iload_n 2, 1) := by decide +kernel
theorem dX4_chord_15 : decode cX4_chord 15 = .ok (.invokevirtual 134, 3) := by decide +kernel
theorem dX4_chord_18 : decode cX4_chord 18 = .ok (.ifCond .ne 9, 3) := by decide +kernel
theorem dX4_chord_21 : decode cX4_chord 21 = .ok (.aload_n 0, 1) := by decide +kernel
theorem dX4_chord_22 : decode cX4_chord 22 = .ok (.iconst 1, 1) := by decide +kernel
theorem dX4_chord_23 : decode cX4_chord 23 = .ok (.invokevirtual 118, 3) := by decide +kernel
theorem dX4_chord_26 : decode cX4_chord 26 = .ok (.ireturn, 1) := by decide +kernel
theorem dX4_chord_27 : decode cX4_chord 27 = .ok (.iload_n 3, 1) := by decide +kernel
theorem dX4_chord_28 : decode cX4_chord 28 = .ok (.iconst 0, 1) := by decide +kernel
theorem dX4_chord_29 : decode cX4_chord 29 = .ok (.iconst 2, 1) := by decide +kernel
theorem dX4_chord_30 : decode cX4_chord 30 = .ok (.invokestatic 42, 3) := by decide +kernel
theorem dX4_chord_33 : decode cX4_chord 33 = .ok (.ifCond .eq 13, 3) := by decide +kernel
theorem dX4_chord_36 : decode cX4_chord 36 = .ok (.aload_n 0, 1) := by decide +kernel
theorem dX4_chord_37 : decode cX4_chord 37 = .ok (.iload_n 1, 1) := by decide +kernel
theorem dX4_chord_38 : decode cX4_chord 38 = .ok (.iload_n 2, 1) := by decide +kernel
theorem dX4_chord_39 : decode cX4_chord 39 = .ok (.iload_n 3, 1) := by decide +kernel
theorem dX4_chord_40 : decode cX4_chord 40 = .ok (.invokevirtual 199, 3) := by decide +kernel
theorem dX4_chord_43 : decode cX4_chord 43 = .ok (.goto 8, 3) := by decide +kernel
theorem dX4_chord_46 : decode cX4_chord 46 = .ok (.aload_n 0, 1) := by decide +kernel
theorem dX4_chord_47 : decode cX4_chord 47 = .ok (.iconst 2, 1) := by decide +kernel
theorem dX4_chord_48 : decode cX4_chord 48 = .ok (.invokevirtual 118, 3) := by decide +kernel
theorem dX4_chord_51 : decode cX4_chord 51 = .ok (.ireturn, 1) := by decide +kernel
theorem dX4_tellsWound_0 : decode cX4_tellsWound 0 = .ok (.iload_n 1, 1) := by decide +kernel
theorem dX4_tellsWound_1 : decode cX4_tellsWound 1 = .ok (.aload_n 0, 1) := by decide +kernel
theorem dX4_tellsWound_2 : decode cX4_tellsWound 2 = .ok (.getfield 7, 3) := by decide +kernel
theorem dX4_tellsWound_5 : decode cX4_tellsWound 5 = .ok (.bipush 15, 2) := by decide +kernel
theorem dX4_tellsWound_7 : decode cX4_tellsWound 7 = .ok (.iaload, 1) := by decide +kernel
theorem dX4_tellsWound_8 : decode cX4_tellsWound 8 = .ok (.if_icmp .ge 22, 3) := by decide +kernel
theorem dX4_tellsWound_11 : decode cX4_tellsWound 11 = .ok (.aload_n 0, 1) := by decide +kernel
theorem dX4_tellsWound_12 : decode cX4_tellsWound 12 = .ok (.aload_n 0, 1) := by decide +kernel
theorem dX4_tellsWound_13 : decode cX4_tellsWound 13 = .ok (.getfield 7, 3) := by decide +kernel
theorem dX4_tellsWound_16 : decode cX4_tellsWound 16 = .ok (.bipush 15, 2) := by decide +kernel
theorem dX4_tellsWound_18 : decode cX4_tellsWound 18 = .ok (.iaload, 1) := by decide +kernel
theorem dX4_tellsWound_19 : decode cX4_tellsWound 19 = .ok (.iconst 1, 1) := by decide +kernel
theorem dX4_tellsWound_20 : decode cX4_tellsWound 20 = .ok (.isub, 1) := by decide +kernel
theorem dX4_tellsWound_21 : decode cX4_tellsWound 21 = .ok (.iload_n 1, 1) := by decide +kernel
theorem dX4_tellsWound_22 : decode cX4_tellsWound 22 = .ok (.isub, 1) := by decide +kernel
theorem dX4_tellsWound_23 : decode cX4_tellsWound 23 = .ok (.iload_n 2, 1) := by decide +kernel
theorem dX4_tellsWound_24 : decode cX4_tellsWound 24 = .ok (.invokevirtual 78, 3) := by decide +kernel
theorem dX4_tellsWound_27 : decode cX4_tellsWound 27 = .ok (.goto 4, 3) := by decide +kernel
theorem dX4_tellsWound_30 : decode cX4_tellsWound 30 = .ok (.iconst (-1), 1) := by decide +kernel
theorem dX4_tellsWound_31 : decode cX4_tellsWound 31 = .ok (.ireturn, 1) := by decide +kernel
theorem dX4_wound_0 : decode cX4_wound 0 = .ok (.aload_n 0, 1) := by decide +kernel
theorem dX4_wound_1 : decode cX4_wound 1 = .ok (.iconst 0, 1) := by decide +kernel
theorem dX4_wound_2 : decode cX4_wound 2 = .ok (.putfield 35, 3) := by decide +kernel
theorem dX4_wound_5 : decode cX4_wound 5 = .ok (.iload_n 1, 1) := by decide +kernel
theorem dX4_wound_6 : decode cX4_wound 6 = .ok (.ifCond .lt 21, 3) := by decide +kernel
theorem dX4_wound_9 : decode cX4_wound 9 = .ok (.iload_n 2, 1) := by decide +kernel
theorem dX4_wound_10 : decode cX4_wound 10 = .ok (.iconst 0, 1) := by decide +kernel
theorem dX4_wound_11 : decode cX4_wound 11 = .ok (.iconst 2, 1) := by decide +kernel
theorem dX4_wound_12 : decode cX4_wound 12 = .ok (.invokestatic 42, 3) := by decide +kernel
theorem dX4_wound_15 : decode cX4_wound 15 = .ok (.ifCond .eq 12, 3) := by decide +kernel
theorem dX4_wound_18 : decode cX4_wound 18 = .ok (.aload_n 0, 1) := by decide +kernel
theorem dX4_wound_19 : decode cX4_wound 19 = .ok (.iload_n 1, 1) := by decide +kernel
theorem dX4_wound_20 : decode cX4_wound 20 = .ok (.iload_n 2, 1) := by decide +kernel
theorem dX4_wound_21 : decode cX4_wound 21 = .ok (.invokevirtual 202, 3) := by decide +kernel
theorem dX4_wound_24 : decode cX4_wound 24 = .ok (.goto 8, 3) := by decide +kernel
theorem dX4_wound_27 : decode cX4_wound 27 = .ok (.aload_n 0, 1) := by decide +kernel
theorem dX4_wound_28 : decode cX4_wound 28 = .ok (.iconst 1, 1) := by decide +kernel
theorem dX4_wound_29 : decode cX4_wound 29 = .ok (.invokevirtual 118, 3) := by decide +kernel
theorem dX4_wound_32 : decode cX4_wound 32 = .ok (.ireturn, 1) := by decide +kernel
theorem dX4_over_0 : decode cX4_over 0 = .ok (.iconst 0, 1) := by decide +kernel
theorem dX4_over_1 : decode cX4_over 1 = .ok (.istore_n 2, 1) := by decide +kernel
theorem dX4_over_2 : decode cX4_over 2 = .ok (.iconst 0, 1) := by decide +kernel
theorem dX4_over_3 : decode cX4_over 3 = .ok (.istore_n 3, 1) := by decide +kernel
theorem dX4_over_4 : decode cX4_over 4 = .ok (.iload_n 3, 1) := by decide +kernel
theorem dX4_over_5 : decode cX4_over 5 = .ok (.aload_n 0, 1) := by decide +kernel
theorem dX4_over_6 : decode cX4_over 6 = .ok (.getfield 7, 3) := by decide +kernel
theorem dX4_over_9 : decode cX4_over 9 = .ok (.bipush 15, 2) := by decide +kernel
theorem dX4_over_11 : decode cX4_over 11 = .ok (.iaload, 1) := by decide +kernel
theorem dX4_over_12 : decode cX4_over 12 = .ok (.if_icmp .ge 46, 3) := by decide +kernel
theorem dX4_over_15 : decode cX4_over 15 = .ok (.aload_n 0, 1) := by decide +kernel
theorem dX4_over_16 : decode cX4_over 16 = .ok (.aload_n 0, 1) := by decide +kernel
theorem dX4_over_17 : decode cX4_over 17 = .ok (.iload_n 3, 1) := by decide +kernel
theorem dX4_over_18 : decode cX4_over 18 = .ok (.iconst 0, 1) := by decide +kernel
theorem dX4_over_19 : decode cX4_over 19 = .ok (.invokevirtual 78, 3) := by decide +kernel
theorem dX4_over_22 : decode cX4_over 22 = .ok (.aload_n 0, 1) := by decide +kernel
theorem dX4_over_23 : decode cX4_over 23 = .ok (.iload_n 3, 1) := by decide +kernel
theorem dX4_over_24 : decode cX4_over 24 = .ok (.iconst 1, 1) := by decide +kernel
theorem dX4_over_25 : decode cX4_over 25 = .ok (.invokevirtual 78, 3) := by decide +kernel
theorem dX4_over_28 : decode cX4_over 28 = .ok (.invokevirtual 85, 3) := by decide +kernel
theorem dX4_over_31 : decode cX4_over 31 = .ok (.iload_n 2, 1) := by decide +kernel
theorem dX4_over_32 : decode cX4_over 32 = .ok (.aload_n 0, 1) := by decide +kernel
theorem dX4_over_33 : decode cX4_over 33 = .ok (.getfield 29, 3) := by decide +kernel
theorem dX4_over_36 : decode cX4_over 36 = .ok (.iload_n 1, 1) := by decide +kernel
theorem dX4_over_37 : decode cX4_over 37 = .ok (.iaload, 1) := by decide +kernel
theorem dX4_over_38 : decode cX4_over 38 = .ok (.aload_n 0, 1) := by decide +kernel
theorem dX4_over_39 : decode cX4_over 39 = .ok (.getfield 65, 3) := by decide +kernel
theorem dX4_over_42 : decode cX4_over 42 = .ok (.if_icmp .ne 7, 3) := by decide +kernel
theorem dX4_over_45 : decode cX4_over 45 = .ok (.iconst 1, 1) := by decide +kernel
theorem dX4_over_46 : decode cX4_over 46 = .ok (.goto 4, 3) := by decide +kernel
theorem dX4_over_49 : decode cX4_over 49 = .ok (.iconst 0, 1) := by decide +kernel
theorem dX4_over_50 : decode cX4_over 50 = .ok (.iadd, 1) := by decide +kernel
theorem dX4_over_51 : decode cX4_over 51 = .ok (.istore_n 2, 1) := by decide +kernel
theorem dX4_over_52 : decode cX4_over 52 = .ok (.iinc 3 1, 3) := by decide +kernel
theorem dX4_over_55 : decode cX4_over 55 = .ok (.goto (-51), 3) := by decide +kernel
theorem dX4_over_58 : decode cX4_over 58 = .ok (.iload_n 2, 1) := by decide +kernel
theorem dX4_over_59 : decode cX4_over 59 = .ok (.ireturn, 1) := by decide +kernel
theorem dX4_tellsSquare_0 : decode cX4_tellsSquare 0 = .ok (.iload_n 2, 1) := by decide +kernel
theorem dX4_tellsSquare_1 : decode cX4_tellsSquare 1 = .ok (.tableswitch 59 0 2 #[27, 38, 49], 27) := by decide +kernel
theorem dX4_tellsSquare_28 : decode cX4_tellsSquare 28 = .ok (.aload_n 0, 1) := by decide +kernel
theorem dX4_tellsSquare_29 : decode cX4_tellsSquare 29 = .ok (.getfield 7, 3) := by decide +kernel
theorem dX4_tellsSquare_32 : decode cX4_tellsSquare 32 = .ok (.sipush 616, 3) := by decide +kernel
theorem dX4_tellsSquare_35 : decode cX4_tellsSquare 35 = .ok (.iload_n 1, 1) := by decide +kernel
theorem dX4_tellsSquare_36 : decode cX4_tellsSquare 36 = .ok (.iadd, 1) := by decide +kernel
theorem dX4_tellsSquare_37 : decode cX4_tellsSquare 37 = .ok (.iaload, 1) := by decide +kernel
theorem dX4_tellsSquare_38 : decode cX4_tellsSquare 38 = .ok (.ireturn, 1) := by decide +kernel
theorem dX4_tellsSquare_39 : decode cX4_tellsSquare 39 = .ok (.aload_n 0, 1) := by decide +kernel
theorem dX4_tellsSquare_40 : decode cX4_tellsSquare 40 = .ok (.getfield 7, 3) := by decide +kernel
theorem dX4_tellsSquare_43 : decode cX4_tellsSquare 43 = .ok (.sipush 760, 3) := by decide +kernel
theorem dX4_tellsSquare_46 : decode cX4_tellsSquare 46 = .ok (.iload_n 1, 1) := by decide +kernel
theorem dX4_tellsSquare_47 : decode cX4_tellsSquare 47 = .ok (.iadd, 1) := by decide +kernel
theorem dX4_tellsSquare_48 : decode cX4_tellsSquare 48 = .ok (.iaload, 1) := by decide +kernel
theorem dX4_tellsSquare_49 : decode cX4_tellsSquare 49 = .ok (.ireturn, 1) := by decide +kernel
theorem dX4_tellsSquare_50 : decode cX4_tellsSquare 50 = .ok (.aload_n 0, 1) := by decide +kernel
theorem dX4_tellsSquare_51 : decode cX4_tellsSquare 51 = .ok (.iload_n 1, 1) := by decide +kernel
theorem dX4_tellsSquare_52 : decode cX4_tellsSquare 52 = .ok (.invokevirtual 104, 3) := by decide +kernel
theorem dX4_tellsSquare_55 : decode cX4_tellsSquare 55 = .ok (.sipush 10000, 3) := by decide +kernel
theorem dX4_tellsSquare_58 : decode cX4_tellsSquare 58 = .ok (.iadd, 1) := by decide +kernel
theorem dX4_tellsSquare_59 : decode cX4_tellsSquare 59 = .ok (.ireturn, 1) := by decide +kernel
theorem dX4_tellsSquare_60 : decode cX4_tellsSquare 60 = .ok (.aload_n 0, 1) := by decide +kernel
theorem dX4_tellsSquare_61 : decode cX4_tellsSquare 61 = .ok (.iload_n 1, 1) := by decide +kernel
theorem dX4_tellsSquare_62 : decode cX4_tellsSquare 62 = .ok (.invokevirtual 205, 3) := by decide +kernel
theorem dX4_tellsSquare_65 : decode cX4_tellsSquare 65 = .ok (.ireturn, 1) := by decide +kernel
theorem dX4_square_0 : decode cX4_square 0 = .ok (.aload_n 0, 1) := by decide +kernel
theorem dX4_square_1 : decode cX4_square 1 = .ok (.iconst 0, 1) := by decide +kernel
theorem dX4_square_2 : decode cX4_square 2 = .ok (.putfield 35, 3) := by decide +kernel
theorem dX4_square_5 : decode cX4_square 5 = .ok (.iload_n 1, 1) := by decide +kernel
theorem dX4_square_6 : decode cX4_square 6 = .ok (.iload_n 2, 1) := by decide +kernel
theorem dX4_square_7 : decode cX4_square 7 = .ok (.invokestatic 147, 3) := by decide +kernel
theorem dX4_square_10 : decode cX4_square 10 = .ok (.ifCond .ne 9, 3) := by decide +kernel
theorem dX4_square_13 : decode cX4_square 13 = .ok (.aload_n 0, 1) := by decide +kernel
theorem dX4_square_14 : decode cX4_square 14 = .ok (.iconst 1, 1) := by decide +kernel
theorem dX4_square_15 : decode cX4_square 15 = .ok (.invokevirtual 118, 3) := by decide +kernel
theorem dX4_square_18 : decode cX4_square 18 = .ok (.ireturn, 1) := by decide +kernel
theorem dX4_square_19 : decode cX4_square 19 = .ok (.iload_n 3, 1) := by decide +kernel
theorem dX4_square_20 : decode cX4_square 20 = .ok (.iconst 0, 1) := by decide +kernel
theorem dX4_square_21 : decode cX4_square 21 = .ok (.iconst 3, 1) := by decide +kernel
theorem dX4_square_22 : decode cX4_square 22 = .ok (.invokestatic 42, 3) := by decide +kernel
theorem dX4_square_25 : decode cX4_square 25 = .ok (.ifCond .eq 17, 3) := by decide +kernel
theorem dX4_square_28 : decode cX4_square 28 = .ok (.aload_n 0, 1) := by decide +kernel
theorem dX4_square_29 : decode cX4_square 29 = .ok (.bipush 12, 2) := by decide +kernel
theorem dX4_square_31 : decode cX4_square 31 = .ok (.iload_n 2, 1) := by decide +kernel
theorem dX4_square_32 : decode cX4_square 32 = .ok (.imul, 1) := by decide +kernel
theorem dX4_square_33 : decode cX4_square 33 = .ok (.iload_n 1, 1) := by decide +kernel
theorem dX4_square_34 : decode cX4_square 34 = .ok (.iadd, 1) := by decide +kernel
theorem dX4_square_35 : decode cX4_square 35 = .ok (.iload_n 3, 1) := by decide +kernel
theorem dX4_square_36 : decode cX4_square 36 = .ok (.invokevirtual 208, 3) := by decide +kernel
theorem dX4_square_39 : decode cX4_square 39 = .ok (.goto 8, 3) := by decide +kernel
theorem dX4_square_42 : decode cX4_square 42 = .ok (.aload_n 0, 1) := by decide +kernel
theorem dX4_square_43 : decode cX4_square 43 = .ok (.iconst 2, 1) := by decide +kernel
theorem dX4_square_44 : decode cX4_square 44 = .ok (.invokevirtual 118, 3) := by decide +kernel
theorem dX4_square_47 : decode cX4_square 47 = .ok (.ireturn, 1) := by decide +kernel
theorem dX4_squaresThat_0 : decode cX4_squaresThat 0 = .ok (.iconst 0, 1) := by decide +kernel
theorem dX4_squaresThat_1 : decode cX4_squaresThat 1 = .ok (.istore_n 2, 1) := by decide +kernel
theorem dX4_squaresThat_2 : decode cX4_squaresThat 2 = .ok (.iconst 0, 1) := by decide +kernel
theorem dX4_squaresThat_3 : decode cX4_squaresThat 3 = .ok (.istore_n 3, 1) := by decide +kernel
theorem dX4_squaresThat_4 : decode cX4_squaresThat 4 = .ok (.iload_n 3, 1) := by decide +kernel
theorem dX4_squaresThat_5 : decode cX4_squaresThat 5 = .ok (.sipush 144, 3) := by decide +kernel
theorem dX4_squaresThat_8 : decode cX4_squaresThat 8 = .ok (.if_icmp .ge 50, 3) := by decide +kernel
theorem dX4_squaresThat_11 : decode cX4_squaresThat 11 = .ok (.aload_n 0, 1) := by decide +kernel
theorem dX4_squaresThat_12 : decode cX4_squaresThat 12 = .ok (.iload_n 3, 1) := by decide +kernel
theorem dX4_squaresThat_13 : decode cX4_squaresThat 13 = .ok (.invokevirtual 104, 3) := by decide +kernel
theorem dX4_squaresThat_16 : decode cX4_squaresThat 16 = .ok (.ifCond .le 7, 3) := by decide +kernel
theorem dX4_squaresThat_19 : decode cX4_squaresThat 19 = .ok (.iconst 1, 1) := by decide +kernel
theorem dX4_squaresThat_20 : decode cX4_squaresThat 20 = .ok (.goto 16, 3) := by decide +kernel
theorem dX4_squaresThat_23 : decode cX4_squaresThat 23 = .ok (.aload_n 0, 1) := by decide +kernel
theorem dX4_squaresThat_24 : decode cX4_squaresThat 24 = .ok (.iload_n 3, 1) := by decide +kernel
theorem dX4_squaresThat_25 : decode cX4_squaresThat 25 = .ok (.invokevirtual 104, 3) := by decide +kernel
theorem dX4_squaresThat_28 : decode cX4_squaresThat 28 = .ok (.ifCond .ge 7, 3) := by decide +kernel
theorem dX4_squaresThat_31 : decode cX4_squaresThat 31 = .ok (.iconst (-1), 1) := by decide +kernel
theorem dX4_squaresThat_32 : decode cX4_squaresThat 32 = .ok (.goto 4, 3) := by decide +kernel
theorem dX4_squaresThat_35 : decode cX4_squaresThat 35 = .ok (.iconst 0, 1) := by decide +kernel
theorem dX4_squaresThat_36 : decode cX4_squaresThat 36 = .ok (.istore 4, 2) := by decide +kernel
theorem dX4_squaresThat_38 : decode cX4_squaresThat 38 = .ok (.iload_n 2, 1) := by decide +kernel
theorem dX4_squaresThat_39 : decode cX4_squaresThat 39 = .ok (.iload 4, 2) := by decide +kernel
theorem dX4_squaresThat_41 : decode cX4_squaresThat 41 = .ok (.iload_n 1, 1) := by decide +kernel
theorem dX4_squaresThat_42 : decode cX4_squaresThat 42 = .ok (.if_icmp .ne 7, 3) := by decide +kernel
theorem dX4_squaresThat_45 : decode cX4_squaresThat 45 = .ok (.iconst 1, 1) := by decide +kernel
theorem dX4_squaresThat_46 : decode cX4_squaresThat 46 = .ok (.goto 4, 3) := by decide +kernel
theorem dX4_squaresThat_49 : decode cX4_squaresThat 49 = .ok (.iconst 0, 1) := by decide +kernel
theorem dX4_squaresThat_50 : decode cX4_squaresThat 50 = .ok (.iadd, 1) := by decide +kernel
theorem dX4_squaresThat_51 : decode cX4_squaresThat 51 = .ok (.istore_n 2, 1) := by decide +kernel
theorem dX4_squaresThat_52 : decode cX4_squaresThat 52 = .ok (.iinc 3 1, 3) := by decide +kernel
theorem dX4_squaresThat_55 : decode cX4_squaresThat 55 = .ok (.goto (-51), 3) := by decide +kernel
theorem dX4_squaresThat_58 : decode cX4_squaresThat 58 = .ok (.iload_n 2, 1) := by decide +kernel
theorem dX4_squaresThat_59 : decode cX4_squaresThat 59 = .ok (.ireturn, 1) := by decide +kernel
theorem dX4_tellsCount_0 : decode cX4_tellsCount 0 = .ok (.iload_n 1, 1) := by decide +kernel
theorem dX4_tellsCount_1 : decode cX4_tellsCount 1 = .ok (.tableswitch 122 0 11 #[63, 63, 63, 70, 78, 78, 78, 87, 87, 92, 98, 104], 63) := by decide +kernel
theorem dX4_tellsCount_64 : decode cX4_tellsCount 64 = .ok (.aload_n 0, 1) := by decide +kernel
theorem dX4_tellsCount_65 : decode cX4_tellsCount 65 = .ok (.getfield 7, 3) := by decide +kernel
theorem dX4_tellsCount_68 : decode cX4_tellsCount 68 = .ok (.iload_n 1, 1) := by decide +kernel
theorem dX4_tellsCount_69 : decode cX4_tellsCount 69 = .ok (.iaload, 1) := by decide +kernel
theorem dX4_tellsCount_70 : decode cX4_tellsCount 70 = .ok (.ireturn, 1) := by decide +kernel
theorem dX4_tellsCount_71 : decode cX4_tellsCount 71 = .ok (.aload_n 0, 1) := by decide +kernel
theorem dX4_tellsCount_72 : decode cX4_tellsCount 72 = .ok (.getfield 7, 3) := by decide +kernel
theorem dX4_tellsCount_75 : decode cX4_tellsCount 75 = .ok (.bipush 15, 2) := by decide +kernel
theorem dX4_tellsCount_77 : decode cX4_tellsCount 77 = .ok (.iaload, 1) := by decide +kernel
theorem dX4_tellsCount_78 : decode cX4_tellsCount 78 = .ok (.ireturn, 1) := by decide +kernel
theorem dX4_tellsCount_79 : decode cX4_tellsCount 79 = .ok (.aload_n 0, 1) := by decide +kernel
theorem dX4_tellsCount_80 : decode cX4_tellsCount 80 = .ok (.getfield 7, 3) := by decide +kernel
theorem dX4_tellsCount_83 : decode cX4_tellsCount 83 = .ok (.iload_n 1, 1) := by decide +kernel
theorem dX4_tellsCount_84 : decode cX4_tellsCount 84 = .ok (.iconst 1, 1) := by decide +kernel
theorem dX4_tellsCount_85 : decode cX4_tellsCount 85 = .ok (.isub, 1) := by decide +kernel
theorem dX4_tellsCount_86 : decode cX4_tellsCount 86 = .ok (.iaload, 1) := by decide +kernel
theorem dX4_tellsCount_87 : decode cX4_tellsCount 87 = .ok (.ireturn, 1) := by decide +kernel
theorem dX4_tellsCount_88 : decode cX4_tellsCount 88 = .ok (.aload_n 0, 1) := by decide +kernel
theorem dX4_tellsCount_89 : decode cX4_tellsCount 89 = .ok (.invokevirtual 156, 3) := by decide +kernel
theorem dX4_tellsCount_92 : decode cX4_tellsCount 92 = .ok (.ireturn, 1) := by decide +kernel
theorem dX4_tellsCount_93 : decode cX4_tellsCount 93 = .ok (.aload_n 0, 1) := by decide +kernel
theorem dX4_tellsCount_94 : decode cX4_tellsCount 94 = .ok (.iconst 1, 1) := by decide +kernel
theorem dX4_tellsCount_95 : decode cX4_tellsCount 95 = .ok (.invokevirtual 211, 3) := by decide +kernel
theorem dX4_tellsCount_98 : decode cX4_tellsCount 98 = .ok (.ireturn, 1) := by decide +kernel
theorem dX4_tellsCount_99 : decode cX4_tellsCount 99 = .ok (.aload_n 0, 1) := by decide +kernel
theorem dX4_tellsCount_100 : decode cX4_tellsCount 100 = .ok (.iconst (-1), 1) := by decide +kernel
theorem dX4_tellsCount_101 : decode cX4_tellsCount 101 = .ok (.invokevirtual 211, 3) := by decide +kernel
theorem dX4_tellsCount_104 : decode cX4_tellsCount 104 = .ok (.ireturn, 1) := by decide +kernel
theorem dX4_tellsCount_105 : decode cX4_tellsCount 105 = .ok (.aload_n 0, 1) := by decide +kernel
theorem dX4_tellsCount_106 : decode cX4_tellsCount 106 = .ok (.iconst 0, 1) := by decide +kernel
theorem dX4_tellsCount_107 : decode cX4_tellsCount 107 = .ok (.invokevirtual 193, 3) := by decide +kernel
theorem dX4_tellsCount_110 : decode cX4_tellsCount 110 = .ok (.aload_n 0, 1) := by decide +kernel
theorem dX4_tellsCount_111 : decode cX4_tellsCount 111 = .ok (.iconst 1, 1) := by decide +kernel
theorem dX4_tellsCount_112 : decode cX4_tellsCount 112 = .ok (.invokevirtual 193, 3) := by decide +kernel
theorem dX4_tellsCount_115 : decode cX4_tellsCount 115 = .ok (.iadd, 1) := by decide +kernel
theorem dX4_tellsCount_116 : decode cX4_tellsCount 116 = .ok (.aload_n 0, 1) := by decide +kernel
theorem dX4_tellsCount_117 : decode cX4_tellsCount 117 = .ok (.iconst 2, 1) := by decide +kernel
theorem dX4_tellsCount_118 : decode cX4_tellsCount 118 = .ok (.invokevirtual 193, 3) := by decide +kernel
theorem dX4_tellsCount_121 : decode cX4_tellsCount 121 = .ok (.iadd, 1) := by decide +kernel
theorem dX4_tellsCount_122 : decode cX4_tellsCount 122 = .ok (.ireturn, 1) := by decide +kernel
theorem dX4_tellsCount_123 : decode cX4_tellsCount 123 = .ok (.aload_n 0, 1) := by decide +kernel
theorem dX4_tellsCount_124 : decode cX4_tellsCount 124 = .ok (.getfield 39, 3) := by decide +kernel
theorem dX4_tellsCount_127 : decode cX4_tellsCount 127 = .ok (.ireturn, 1) := by decide +kernel
theorem dX4_count_0 : decode cX4_count 0 = .ok (.aload_n 0, 1) := by decide +kernel
theorem dX4_count_1 : decode cX4_count 1 = .ok (.iconst 0, 1) := by decide +kernel
theorem dX4_count_2 : decode cX4_count 2 = .ok (.putfield 35, 3) := by decide +kernel
theorem dX4_count_5 : decode cX4_count 5 = .ok (.iload_n 1, 1) := by decide +kernel
theorem dX4_count_6 : decode cX4_count 6 = .ok (.iconst 0, 1) := by decide +kernel
theorem dX4_count_7 : decode cX4_count 7 = .ok (.bipush 12, 2) := by decide +kernel
theorem dX4_count_9 : decode cX4_count 9 = .ok (.invokestatic 42, 3) := by decide +kernel
theorem dX4_count_12 : decode cX4_count 12 = .ok (.ifCond .eq 11, 3) := by decide +kernel
theorem dX4_count_15 : decode cX4_count 15 = .ok (.aload_n 0, 1) := by decide +kernel
theorem dX4_count_16 : decode cX4_count 16 = .ok (.iload_n 1, 1) := by decide +kernel
theorem dX4_count_17 : decode cX4_count 17 = .ok (.invokevirtual 214, 3) := by decide +kernel
theorem dX4_count_20 : decode cX4_count 20 = .ok (.goto 8, 3) := by decide +kernel
theorem dX4_count_23 : decode cX4_count 23 = .ok (.aload_n 0, 1) := by decide +kernel
theorem dX4_count_24 : decode cX4_count 24 = .ok (.iconst 1, 1) := by decide +kernel
theorem dX4_count_25 : decode cX4_count 25 = .ok (.invokevirtual 118, 3) := by decide +kernel
theorem dX4_count_28 : decode cX4_count 28 = .ok (.ireturn, 1) := by decide +kernel
theorem dX4_setting_0 : decode cX4_setting 0 = .ok (.aload_n 0, 1) := by decide +kernel
theorem dX4_setting_1 : decode cX4_setting 1 = .ok (.iconst 0, 1) := by decide +kernel
theorem dX4_setting_2 : decode cX4_setting 2 = .ok (.putfield 35, 3) := by decide +kernel
theorem dX4_setting_5 : decode cX4_setting 5 = .ok (.iload_n 1, 1) := by decide +kernel
theorem dX4_setting_6 : decode cX4_setting 6 = .ok (.iconst 0, 1) := by decide +kernel
theorem dX4_setting_7 : decode cX4_setting 7 = .ok (.iconst 2, 1) := by decide +kernel
theorem dX4_setting_8 : decode cX4_setting 8 = .ok (.invokestatic 42, 3) := by decide +kernel
theorem dX4_setting_11 : decode cX4_setting 11 = .ok (.ifCond .eq 15, 3) := by decide +kernel
theorem dX4_setting_14 : decode cX4_setting 14 = .ok (.aload_n 0, 1) := by decide +kernel
theorem dX4_setting_15 : decode cX4_setting 15 = .ok (.getfield 7, 3) := by decide +kernel
theorem dX4_setting_18 : decode cX4_setting 18 = .ok (.bipush 6, 2) := by decide +kernel
theorem dX4_setting_20 : decode cX4_setting 20 = .ok (.iload_n 1, 1) := by decide +kernel
theorem dX4_setting_21 : decode cX4_setting 21 = .ok (.iadd, 1) := by decide +kernel
theorem dX4_setting_22 : decode cX4_setting 22 = .ok (.iaload, 1) := by decide +kernel
theorem dX4_setting_23 : decode cX4_setting 23 = .ok (.goto 8, 3) := by decide +kernel
theorem dX4_setting_26 : decode cX4_setting 26 = .ok (.aload_n 0, 1) := by decide +kernel
theorem dX4_setting_27 : decode cX4_setting 27 = .ok (.iconst 1, 1) := by decide +kernel
theorem dX4_setting_28 : decode cX4_setting 28 = .ok (.invokevirtual 118, 3) := by decide +kernel
theorem dX4_setting_31 : decode cX4_setting 31 = .ok (.ireturn, 1) := by decide +kernel
theorem dX4_whyNot_0 : decode cX4_whyNot 0 = .ok (.aload_n 0, 1) := by decide +kernel
theorem dX4_whyNot_1 : decode cX4_whyNot 1 = .ok (.iconst 0, 1) := by decide +kernel
theorem dX4_whyNot_2 : decode cX4_whyNot 2 = .ok (.putfield 35, 3) := by decide +kernel
theorem dX4_whyNot_5 : decode cX4_whyNot 5 = .ok (.aload_n 0, 1) := by decide +kernel
theorem dX4_whyNot_6 : decode cX4_whyNot 6 = .ok (.iload_n 1, 1) := by decide +kernel
theorem dX4_whyNot_7 : decode cX4_whyNot 7 = .ok (.invokevirtual 134, 3) := by decide +kernel
theorem dX4_whyNot_10 : decode cX4_whyNot 10 = .ok (.ifCond .eq 23, 3) := by decide +kernel
theorem dX4_whyNot_13 : decode cX4_whyNot 13 = .ok (.aload_n 0, 1) := by decide +kernel
theorem dX4_whyNot_14 : decode cX4_whyNot 14 = .ok (.aload_n 0, 1) := by decide +kernel
theorem dX4_whyNot_15 : decode cX4_whyNot 15 = .ok (.getfield 7, 3) := by decide +kernel
theorem dX4_whyNot_18 : decode cX4_whyNot 18 = .ok (.iconst 1, 1) := by decide +kernel
theorem dX4_whyNot_19 : decode cX4_whyNot 19 = .ok (.iaload, 1) := by decide +kernel
theorem dX4_whyNot_20 : decode cX4_whyNot 20 = .ok (.iload_n 1, 1) := by decide +kernel
theorem dX4_whyNot_21 : decode cX4_whyNot 21 = .ok (.aload_n 0, 1) := by decide +kernel
theorem dX4_whyNot_22 : decode cX4_whyNot 22 = .ok (.getfield 7, 3) := by decide +kernel
theorem dX4_whyNot_25 : decode cX4_whyNot 25 = .ok (.iconst 2, 1) := by decide +kernel
theorem dX4_whyNot_26 : decode cX4_whyNot 26 = .ok (.iaload, 1) := by decide +kernel
theorem dX4_whyNot_27 : decode cX4_whyNot 27 = .ok (.invokevirtual 107, 3) := by decide +kernel
theorem dX4_whyNot_30 : decode cX4_whyNot 30 = .ok (.goto 8, 3) := by decide +kernel
theorem dX4_whyNot_33 : decode cX4_whyNot 33 = .ok (.aload_n 0, 1) := by decide +kernel
theorem dX4_whyNot_34 : decode cX4_whyNot 34 = .ok (.iconst 1, 1) := by decide +kernel
theorem dX4_whyNot_35 : decode cX4_whyNot 35 = .ok (.invokevirtual 118, 3) := by decide +kernel
theorem dX4_whyNot_38 : decode cX4_whyNot 38 = .ok (.ireturn, 1) := by decide +kernel
theorem dX4_tellsGain_0 : decode cX4_tellsGain 0 = .ok (.iload_n 1, 1) := by decide +kernel
theorem dX4_tellsGain_1 : decode cX4_tellsGain 1 = .ok (.aload_n 0, 1) := by decide +kernel
theorem dX4_tellsGain_2 : decode cX4_tellsGain 2 = .ok (.getfield 7, 3) := by decide +kernel
theorem dX4_tellsGain_5 : decode cX4_tellsGain 5 = .ok (.iconst 1, 1) := by decide +kernel
theorem dX4_tellsGain_6 : decode cX4_tellsGain 6 = .ok (.iaload, 1) := by decide +kernel
theorem dX4_tellsGain_7 : decode cX4_tellsGain 7 = .ok (.if_icmp .ne 7, 3) := by decide +kernel
theorem dX4_tellsGain_10 : decode cX4_tellsGain 10 = .ok (.iconst (-1), 1) := by decide +kernel
theorem dX4_tellsGain_11 : decode cX4_tellsGain 11 = .ok (.goto 28, 3) := by decide +kernel
theorem dX4_tellsGain_14 : decode cX4_tellsGain 14 = .ok (.aload_n 0, 1) := by decide +kernel
theorem dX4_tellsGain_15 : decode cX4_tellsGain 15 = .ok (.aload_n 0, 1) := by decide +kernel
theorem dX4_tellsGain_16 : decode cX4_tellsGain 16 = .ok (.getfield 7, 3) := by decide +kernel
theorem dX4_tellsGain_19 : decode cX4_tellsGain 19 = .ok (.iconst 1, 1) := by decide +kernel
theorem dX4_tellsGain_20 : decode cX4_tellsGain 20 = .ok (.iaload, 1) := by decide +kernel
theorem dX4_tellsGain_21 : decode cX4_tellsGain 21 = .ok (.iload_n 1, 1) := by decide +kernel
theorem dX4_tellsGain_22 : decode cX4_tellsGain 22 = .ok (.aload_n 0, 1) := by decide +kernel
theorem dX4_tellsGain_23 : decode cX4_tellsGain 23 = .ok (.aload_n 0, 1) := by decide +kernel
theorem dX4_tellsGain_24 : decode cX4_tellsGain 24 = .ok (.getfield 7, 3) := by decide +kernel
theorem dX4_tellsGain_27 : decode cX4_tellsGain 27 = .ok (.iconst 2, 1) := by decide +kernel
theorem dX4_tellsGain_28 : decode cX4_tellsGain 28 = .ok (.iaload, 1) := by decide +kernel
theorem dX4_tellsGain_29 : decode cX4_tellsGain 29 = .ok (.invokevirtual 88, 3) := by decide +kernel
theorem dX4_tellsGain_32 : decode cX4_tellsGain 32 = .ok (.invokevirtual 111, 3) := by decide +kernel
theorem dX4_tellsGain_35 : decode cX4_tellsGain 35 = .ok (.sipush 10000, 3) := by decide +kernel
theorem dX4_tellsGain_38 : decode cX4_tellsGain 38 = .ok (.iadd, 1) := by decide +kernel
theorem dX4_tellsGain_39 : decode cX4_tellsGain 39 = .ok (.ireturn, 1) := by decide +kernel
theorem dX4_gain_0 : decode cX4_gain 0 = .ok (.aload_n 0, 1) := by decide +kernel
theorem dX4_gain_1 : decode cX4_gain 1 = .ok (.iconst 0, 1) := by decide +kernel
theorem dX4_gain_2 : decode cX4_gain 2 = .ok (.putfield 35, 3) := by decide +kernel
theorem dX4_gain_5 : decode cX4_gain 5 = .ok (.aload_n 0, 1) := by decide +kernel
theorem dX4_gain_6 : decode cX4_gain 6 = .ok (.iload_n 1, 1) := by decide +kernel
theorem dX4_gain_7 : decode cX4_gain 7 = .ok (.invokevirtual 134, 3) := by decide +kernel
theorem dX4_gain_10 : decode cX4_gain 10 = .ok (.ifCond .eq 11, 3) := by decide +kernel
theorem dX4_gain_13 : decode cX4_gain 13 = .ok (.aload_n 0, 1) := by decide +kernel
theorem dX4_gain_14 : decode cX4_gain 14 = .ok (.iload_n 1, 1) := by decide +kernel
theorem dX4_gain_15 : decode cX4_gain 15 = .ok (.invokevirtual 217, 3) := by decide +kernel
theorem dX4_gain_18 : decode cX4_gain 18 = .ok (.goto 8, 3) := by decide +kernel
theorem dX4_gain_21 : decode cX4_gain 21 = .ok (.aload_n 0, 1) := by decide +kernel
theorem dX4_gain_22 : decode cX4_gain 22 = .ok (.iconst 1, 1) := by decide +kernel
theorem dX4_gain_23 : decode cX4_gain 23 = .ok (.invokevirtual 118, 3) := by decide +kernel
theorem dX4_gain_26 : decode cX4_gain 26 = .ok (.ireturn, 1) := by decide +kernel
theorem dX4_best_0 : decode cX4_best 0 = .ok (.aload_n 0, 1) := by decide +kernel
theorem dX4_best_1 : decode cX4_best 1 = .ok (.iconst 0, 1) := by decide +kernel
theorem dX4_best_2 : decode cX4_best 2 = .ok (.putfield 35, 3) := by decide +kernel
theorem dX4_best_5 : decode cX4_best 5 = .ok (.aload_n 0, 1) := by decide +kernel
theorem dX4_best_6 : decode cX4_best 6 = .ok (.aload_n 0, 1) := by decide +kernel
theorem dX4_best_7 : decode cX4_best 7 = .ok (.getfield 7, 3) := by decide +kernel
theorem dX4_best_10 : decode cX4_best 10 = .ok (.iconst 2, 1) := by decide +kernel
theorem dX4_best_11 : decode cX4_best 11 = .ok (.iaload, 1) := by decide +kernel
theorem dX4_best_12 : decode cX4_best 12 = .ok (.invokevirtual 141, 3) := by decide +kernel
theorem dX4_best_15 : decode cX4_best 15 = .ok (.ireturn, 1) := by decide +kernel
theorem dX4_isSecondRefused_0 : decode cX4_isSecondRefused 0 = .ok (.aload_n 0, 1) := by decide +kernel
theorem dX4_isSecondRefused_1 : decode cX4_isSecondRefused 1 = .ok (.getfield 7, 3) := by decide +kernel
theorem dX4_isSecondRefused_4 : decode cX4_isSecondRefused 4 = .ok (.iconst 2, 1) := by decide +kernel
theorem dX4_isSecondRefused_5 : decode cX4_isSecondRefused 5 = .ok (.iaload, 1) := by decide +kernel
theorem dX4_isSecondRefused_6 : decode cX4_isSecondRefused 6 = .ok (.istore_n 3, 1) := by decide +kernel
theorem dX4_isSecondRefused_7 : decode cX4_isSecondRefused 7 = .ok (.aload_n 0, 1) := by decide +kernel
theorem dX4_isSecondRefused_8 : decode cX4_isSecondRefused 8 = .ok (.aload_n 0, 1) := by decide +kernel
theorem dX4_isSecondRefused_9 : decode cX4_isSecondRefused 9 = .ok (.getfield 7, 3) := by decide +kernel
theorem dX4_isSecondRefused_12 : decode cX4_isSecondRefused 12 = .ok (.iconst 1, 1) := by decide +kernel
theorem dX4_isSecondRefused_13 : decode cX4_isSecondRefused 13 = .ok (.iaload, 1) := by decide +kernel
theorem dX4_isSecondRefused_14 : decode cX4_isSecondRefused 14 = .ok (.iload_n 1, 1) := by decide +kernel
theorem dX4_isSecondRefused_15 : decode cX4_isSecondRefused 15 = .ok (.invokevirtual 95, 3) := by decide +kernel
theorem dX4_isSecondRefused_18 : decode cX4_isSecondRefused 18 = .ok (.istore 4, 2) := by decide +kernel
theorem dX4_isSecondRefused_20 : decode cX4_isSecondRefused 20 = .ok (.iload_n 2, 1) := by decide +kernel
theorem dX4_isSecondRefused_21 : decode cX4_isSecondRefused 21 = .ok (.aload_n 0, 1) := by decide +kernel
theorem dX4_isSecondRefused_22 : decode cX4_isSecondRefused 22 = .ok (.getfield 7, 3) := by decide +kernel
theorem dX4_isSecondRefused_25 : decode cX4_isSecondRefused 25 = .ok (.iconst 1, 1) := by decide +kernel
theorem dX4_isSecondRefused_26 : decode cX4_isSecondRefused 26 = .ok (.iaload, 1) := by decide +kernel
theorem dX4_isSecondRefused_27 : decode cX4_isSecondRefused 27 = .ok (.if_icmp .ne 7, 3) := by decide +kernel
theorem dX4_isSecondRefused_30 : decode cX4_isSecondRefused 30 = .ok (.iconst 1, 1) := by decide +kernel
theorem dX4_isSecondRefused_31 : decode cX4_isSecondRefused 31 = .ok (.goto 4, 3) := by decide +kernel
theorem dX4_isSecondRefused_34 : decode cX4_isSecondRefused 34 = .ok (.iconst 0, 1) := by decide +kernel
theorem dX4_isSecondRefused_35 : decode cX4_isSecondRefused 35 = .ok (.istore 5, 2) := by decide +kernel
theorem dX4_isSecondRefused_37 : decode cX4_isSecondRefused 37 = .ok (.aload_n 0, 1) := by decide +kernel
theorem dX4_isSecondRefused_38 : decode cX4_isSecondRefused 38 = .ok (.getfield 7, 3) := by decide +kernel
theorem dX4_isSecondRefused_41 : decode cX4_isSecondRefused 41 = .ok (.bipush 9, 2) := by decide +kernel
theorem dX4_isSecondRefused_43 : decode cX4_isSecondRefused 43 = .ok (.iconst 2, 1) := by decide +kernel
theorem dX4_isSecondRefused_44 : decode cX4_isSecondRefused 44 = .ok (.iload_n 3, 1) := by decide +kernel
theorem dX4_isSecondRefused_45 : decode cX4_isSecondRefused 45 = .ok (.imul, 1) := by decide +kernel
theorem dX4_isSecondRefused_46 : decode cX4_isSecondRefused 46 = .ok (.iadd, 1) := by decide +kernel
theorem dX4_isSecondRefused_47 : decode cX4_isSecondRefused 47 = .ok (.iconst 1, 1) := by decide +kernel
theorem dX4_isSecondRefused_48 : decode cX4_isSecondRefused 48 = .ok (.iadd, 1) := by decide +kernel
theorem dX4_isSecondRefused_49 : decode cX4_isSecondRefused 49 = .ok (.dup2, 1) := by decide +kernel
theorem dX4_isSecondRefused_50 : decode cX4_isSecondRefused 50 = .ok (.iaload, 1) := by decide +kernel
theorem dX4_isSecondRefused_51 : decode cX4_isSecondRefused 51 = .ok (.iload 4, 2) := by decide +kernel
theorem dX4_isSecondRefused_53 : decode cX4_isSecondRefused 53 = .ok (.isub, 1) := by decide +kernel
theorem dX4_isSecondRefused_54 : decode cX4_isSecondRefused 54 = .ok (.iastore, 1) := by decide +kernel
theorem dX4_isSecondRefused_55 : decode cX4_isSecondRefused 55 = .ok (.aload_n 0, 1) := by decide +kernel
theorem dX4_isSecondRefused_56 : decode cX4_isSecondRefused 56 = .ok (.iload_n 1, 1) := by decide +kernel
theorem dX4_isSecondRefused_57 : decode cX4_isSecondRefused 57 = .ok (.iload_n 2, 1) := by decide +kernel
theorem dX4_isSecondRefused_58 : decode cX4_isSecondRefused 58 = .ok (.iload_n 3, 1) := by decide +kernel
theorem dX4_isSecondRefused_59 : decode cX4_isSecondRefused 59 = .ok (.invokevirtual 107, 3) := by decide +kernel
theorem dX4_isSecondRefused_62 : decode cX4_isSecondRefused 62 = .ok (.istore 6, 2) := by decide +kernel
theorem dX4_isSecondRefused_64 : decode cX4_isSecondRefused 64 = .ok (.aload_n 0, 1) := by decide +kernel
theorem dX4_isSecondRefused_65 : decode cX4_isSecondRefused 65 = .ok (.getfield 7, 3) := by decide +kernel
theorem dX4_isSecondRefused_68 : decode cX4_isSecondRefused 68 = .ok (.bipush 9, 2) := by decide +kernel
theorem dX4_isSecondRefused_70 : decode cX4_isSecondRefused 70 = .ok (.iconst 2, 1) := by decide +kernel
theorem dX4_isSecondRefused_71 : decode cX4_isSecondRefused 71 = .ok (.iload_n 3, 1) := by decide +kernel
theorem dX4_isSecondRefused_72 : decode cX4_isSecondRefused 72 = .ok (.imul, 1) := by decide +kernel
theorem dX4_isSecondRefused_73 : decode cX4_isSecondRefused 73 = .ok (.iadd, 1) := by decide +kernel
theorem dX4_isSecondRefused_74 : decode cX4_isSecondRefused 74 = .ok (.iconst 1, 1) := by decide +kernel
theorem dX4_isSecondRefused_75 : decode cX4_isSecondRefused 75 = .ok (.iadd, 1) := by decide +kernel
theorem dX4_isSecondRefused_76 : decode cX4_isSecondRefused 76 = .ok (.dup2, 1) := by decide +kernel
theorem dX4_isSecondRefused_77 : decode cX4_isSecondRefused 77 = .ok (.iaload, 1) := by decide +kernel
theorem dX4_isSecondRefused_78 : decode cX4_isSecondRefused 78 = .ok (.iload 4, 2) := by decide +kernel
theorem dX4_isSecondRefused_80 : decode cX4_isSecondRefused 80 = .ok (.iadd, 1) := by decide +kernel
theorem dX4_isSecondRefused_81 : decode cX4_isSecondRefused 81 = .ok (.iastore, 1) := by decide +kernel
theorem dX4_isSecondRefused_82 : decode cX4_isSecondRefused 82 = .ok (.iload 6, 2) := by decide +kernel
theorem dX4_isSecondRefused_84 : decode cX4_isSecondRefused 84 = .ok (.ifCond .ne 31, 3) := by decide +kernel
theorem dX4_isSecondRefused_87 : decode cX4_isSecondRefused 87 = .ok (.iload 5, 2) := by decide +kernel
theorem dX4_isSecondRefused_89 : decode cX4_isSecondRefused 89 = .ok (.ifCond .eq 30, 3) := by decide +kernel
theorem dX4_isSecondRefused_92 : decode cX4_isSecondRefused 92 = .ok (.aload_n 0, 1) := by decide +kernel
theorem dX4_isSecondRefused_93 : decode cX4_isSecondRefused 93 = .ok (.aload_n 0, 1) := by decide +kernel
theorem dX4_isSecondRefused_94 : decode cX4_isSecondRefused 94 = .ok (.getfield 7, 3) := by decide +kernel
theorem dX4_isSecondRefused_97 : decode cX4_isSecondRefused 97 = .ok (.iconst 1, 1) := by decide +kernel
theorem dX4_isSecondRefused_98 : decode cX4_isSecondRefused 98 = .ok (.iaload, 1) := by decide +kernel
theorem dX4_isSecondRefused_99 : decode cX4_isSecondRefused 99 = .ok (.iload_n 1, 1) := by decide +kernel
theorem dX4_isSecondRefused_100 : decode cX4_isSecondRefused 100 = .ok (.invokevirtual 98, 3) := by decide +kernel
theorem dX4_isSecondRefused_103 : decode cX4_isSecondRefused 103 = .ok (.iconst 1, 1) := by decide +kernel
theorem dX4_isSecondRefused_104 : decode cX4_isSecondRefused 104 = .ok (.iadd, 1) := by decide +kernel
theorem dX4_isSecondRefused_105 : decode cX4_isSecondRefused 105 = .ok (.aload_n 0, 1) := by decide +kernel
theorem dX4_isSecondRefused_106 : decode cX4_isSecondRefused 106 = .ok (.getfield 7, 3) := by decide +kernel
theorem dX4_isSecondRefused_109 : decode cX4_isSecondRefused 109 = .ok (.bipush 7, 2) := by decide +kernel
theorem dX4_isSecondRefused_111 : decode cX4_isSecondRefused 111 = .ok (.iaload, 1) := by decide +kernel
theorem dX4_isSecondRefused_112 : decode cX4_isSecondRefused 112 = .ok (.if_icmp .lt 7, 3) := by decide +kernel
theorem dX4_isSecondRefused_115 : decode cX4_isSecondRefused 115 = .ok (.iconst 1, 1) := by decide +kernel
theorem dX4_isSecondRefused_116 : decode cX4_isSecondRefused 116 = .ok (.goto 4, 3) := by decide +kernel
theorem dX4_isSecondRefused_119 : decode cX4_isSecondRefused 119 = .ok (.iconst 0, 1) := by decide +kernel
theorem dX4_isSecondRefused_120 : decode cX4_isSecondRefused 120 = .ok (.ireturn, 1) := by decide +kernel
theorem dX4_twoBest_0 : decode cX4_twoBest 0 = .ok (.iconst (-1), 1) := by decide +kernel
theorem dX4_twoBest_1 : decode cX4_twoBest 1 = .ok (.istore_n 1, 1) := by decide +kernel
theorem dX4_twoBest_2 : decode cX4_twoBest 2 = .ok (.ldc 220, 2) := by decide +kernel
theorem dX4_twoBest_4 : decode cX4_twoBest 4 = .ok (.istore_n 2, 1) := by decide +kernel
theorem dX4_twoBest_5 : decode cX4_twoBest 5 = .ok (.aload_n 0, 1) := by decide +kernel
theorem dX4_twoBest_6 : decode cX4_twoBest 6 = .ok (.aload_n 0, 1) := by decide +kernel
theorem dX4_twoBest_7 : decode cX4_twoBest 7 = .ok (.getfield 7, 3) := by decide +kernel
theorem dX4_twoBest_10 : decode cX4_twoBest 10 = .ok (.iconst 2, 1) := by decide +kernel
theorem dX4_twoBest_11 : decode cX4_twoBest 11 = .ok (.iaload, 1) := by decide +kernel
theorem dX4_twoBest_12 : decode cX4_twoBest 12 = .ok (.invokevirtual 88, 3) := by decide +kernel
theorem dX4_twoBest_15 : decode cX4_twoBest 15 = .ok (.istore_n 3, 1) := by decide +kernel
theorem dX4_twoBest_16 : decode cX4_twoBest 16 = .ok (.iconst 0, 1) := by decide +kernel
theorem dX4_twoBest_17 : decode cX4_twoBest 17 = .ok (.istore 4, 2) := by decide +kernel
theorem dX4_twoBest_19 : decode cX4_twoBest 19 = .ok (.iload 4, 2) := by decide +kernel
theorem dX4_twoBest_21 : decode cX4_twoBest 21 = .ok (.aload_n 0, 1) := by decide +kernel
theorem dX4_twoBest_22 : decode cX4_twoBest 22 = .ok (.getfield 7, 3) := by decide +kernel
theorem dX4_twoBest_25 : decode cX4_twoBest 25 = .ok (.iconst 0, 1) := by decide +kernel
theorem dX4_twoBest_26 : decode cX4_twoBest 26 = .ok (.iaload, 1) := by decide +kernel
theorem dX4_twoBest_27 : decode cX4_twoBest 27 = .ok (.if_icmp .ge 149, 3) := by decide +kernel
theorem dX4_twoBest_30 : decode cX4_twoBest 30 = .ok (.aload_n 0, 1) := by decide +kernel
theorem dX4_twoBest_31 : decode cX4_twoBest 31 = .ok (.aload_n 0, 1) := by decide +kernel
theorem dX4_twoBest_32 : decode cX4_twoBest 32 = .ok (.getfield 7, 3) := by decide +kernel
theorem dX4_twoBest_35 : decode cX4_twoBest 35 = .ok (.iconst 1, 1) := by decide +kernel
theorem dX4_twoBest_36 : decode cX4_twoBest 36 = .ok (.iaload, 1) := by decide +kernel
theorem dX4_twoBest_37 : decode cX4_twoBest 37 = .ok (.iload 4, 2) := by decide +kernel
theorem dX4_twoBest_39 : decode cX4_twoBest 39 = .ok (.aload_n 0, 1) := by decide +kernel
theorem dX4_twoBest_40 : decode cX4_twoBest 40 = .ok (.getfield 7, 3) := by decide +kernel
theorem dX4_twoBest_43 : decode cX4_twoBest 43 = .ok (.iconst 2, 1) := by decide +kernel
theorem dX4_twoBest_44 : decode cX4_twoBest 44 = .ok (.iaload, 1) := by decide +kernel
theorem dX4_twoBest_45 : decode cX4_twoBest 45 = .ok (.invokevirtual 107, 3) := by decide +kernel
theorem dX4_twoBest_48 : decode cX4_twoBest 48 = .ok (.ifCond .ne 122, 3) := by decide +kernel
theorem dX4_twoBest_51 : decode cX4_twoBest 51 = .ok (.aload_n 0, 1) := by decide +kernel
theorem dX4_twoBest_52 : decode cX4_twoBest 52 = .ok (.aload_n 0, 1) := by decide +kernel
theorem dX4_twoBest_53 : decode cX4_twoBest 53 = .ok (.getfield 7, 3) := by decide +kernel
theorem dX4_twoBest_56 : decode cX4_twoBest 56 = .ok (.iconst 1, 1) := by decide +kernel
theorem dX4_twoBest_57 : decode cX4_twoBest 57 = .ok (.iaload, 1) := by decide +kernel
theorem dX4_twoBest_58 : decode cX4_twoBest 58 = .ok (.iload 4, 2) := by decide +kernel
theorem dX4_twoBest_60 : decode cX4_twoBest 60 = .ok (.iload_n 3, 1) := by decide +kernel
theorem dX4_twoBest_61 : decode cX4_twoBest 61 = .ok (.invokevirtual 111, 3) := by decide +kernel
theorem dX4_twoBest_64 : decode cX4_twoBest 64 = .ok (.istore 5, 2) := by decide +kernel
theorem dX4_twoBest_66 : decode cX4_twoBest 66 = .ok (.aload_n 0, 1) := by decide +kernel
theorem dX4_twoBest_67 : decode cX4_twoBest 67 = .ok (.aload_n 0, 1) := by decide +kernel
theorem dX4_twoBest_68 : decode cX4_twoBest 68 = .ok (.getfield 7, 3) := by decide +kernel
theorem dX4_twoBest_71 : decode cX4_twoBest 71 = .ok (.iconst 1, 1) := by decide +kernel
theorem dX4_twoBest_72 : decode cX4_twoBest 72 = .ok (.iaload, 1) := by decide +kernel
theorem dX4_twoBest_73 : decode cX4_twoBest 73 = .ok (.iload 4, 2) := by decide +kernel
theorem dX4_twoBest_75 : decode cX4_twoBest 75 = .ok (.iload_n 3, 1) := by decide +kernel
theorem dX4_twoBest_76 : decode cX4_twoBest 76 = .ok (.invokevirtual 91, 3) := by decide +kernel
theorem dX4_twoBest_79 : decode cX4_twoBest 79 = .ok (.iconst 0, 1) := by decide +kernel
theorem dX4_twoBest_80 : decode cX4_twoBest 80 = .ok (.istore 6, 2) := by decide +kernel
theorem dX4_twoBest_82 : decode cX4_twoBest 82 = .ok (.iload 6, 2) := by decide +kernel
theorem dX4_twoBest_84 : decode cX4_twoBest 84 = .ok (.aload_n 0, 1) := by decide +kernel
theorem dX4_twoBest_85 : decode cX4_twoBest 85 = .ok (.getfield 7, 3) := by decide +kernel
theorem dX4_twoBest_88 : decode cX4_twoBest 88 = .ok (.iconst 0, 1) := by decide +kernel
theorem dX4_twoBest_89 : decode cX4_twoBest 89 = .ok (.iaload, 1) := by decide +kernel
theorem dX4_twoBest_90 : decode cX4_twoBest 90 = .ok (.if_icmp .ge 66, 3) := by decide +kernel
theorem dX4_twoBest_93 : decode cX4_twoBest 93 = .ok (.aload_n 0, 1) := by decide +kernel
theorem dX4_twoBest_94 : decode cX4_twoBest 94 = .ok (.iload 4, 2) := by decide +kernel
theorem dX4_twoBest_96 : decode cX4_twoBest 96 = .ok (.iload 6, 2) := by decide +kernel
theorem dX4_twoBest_98 : decode cX4_twoBest 98 = .ok (.invokevirtual 221, 3) := by decide +kernel
theorem dX4_twoBest_101 : decode cX4_twoBest 101 = .ok (.ifCond .ne 49, 3) := by decide +kernel
theorem dX4_twoBest_104 : decode cX4_twoBest 104 = .ok (.iload 5, 2) := by decide +kernel
theorem dX4_twoBest_106 : decode cX4_twoBest 106 = .ok (.aload_n 0, 1) := by decide +kernel
theorem dX4_twoBest_107 : decode cX4_twoBest 107 = .ok (.iload 4, 2) := by decide +kernel
theorem dX4_twoBest_109 : decode cX4_twoBest 109 = .ok (.iload 6, 2) := by decide +kernel
theorem dX4_twoBest_111 : decode cX4_twoBest 111 = .ok (.iload_n 3, 1) := by decide +kernel
theorem dX4_twoBest_112 : decode cX4_twoBest 112 = .ok (.invokevirtual 111, 3) := by decide +kernel
theorem dX4_twoBest_115 : decode cX4_twoBest 115 = .ok (.iadd, 1) := by decide +kernel
theorem dX4_twoBest_116 : decode cX4_twoBest 116 = .ok (.istore 7, 2) := by decide +kernel
theorem dX4_twoBest_118 : decode cX4_twoBest 118 = .ok (.iload 7, 2) := by decide +kernel
theorem dX4_twoBest_120 : decode cX4_twoBest 120 = .ok (.iload_n 2, 1) := by decide +kernel
theorem dX4_twoBest_121 : decode cX4_twoBest 121 = .ok (.if_icmp .le 14, 3) := by decide +kernel
theorem dX4_twoBest_124 : decode cX4_twoBest 124 = .ok (.bipush 100, 2) := by decide +kernel
theorem dX4_twoBest_126 : decode cX4_twoBest 126 = .ok (.iload 4, 2) := by decide +kernel
theorem dX4_twoBest_128 : decode cX4_twoBest 128 = .ok (.imul, 1) := by decide +kernel
theorem dX4_twoBest_129 : decode cX4_twoBest 129 = .ok (.iload 6, 2) := by decide +kernel
theorem dX4_twoBest_131 : decode cX4_twoBest 131 = .ok (.iadd, 1) := by decide +kernel
theorem dX4_twoBest_132 : decode cX4_twoBest 132 = .ok (.goto 4, 3) := by decide +kernel
theorem dX4_twoBest_135 : decode cX4_twoBest 135 = .ok (.iload_n 1, 1) := by decide +kernel
theorem dX4_twoBest_136 : decode cX4_twoBest 136 = .ok (.istore_n 1, 1) := by decide +kernel
theorem dX4_twoBest_137 : decode cX4_twoBest 137 = .ok (.iload 7, 2) := by decide +kernel
theorem dX4_twoBest_139 : decode cX4_twoBest 139 = .ok (.iload_n 2, 1) := by decide +kernel
theorem dX4_twoBest_140 : decode cX4_twoBest 140 = .ok (.if_icmp .le 8, 3) := by decide +kernel
theorem dX4_twoBest_143 : decode cX4_twoBest 143 = .ok (.iload 7, 2) := by decide +kernel
theorem dX4_twoBest_145 : decode cX4_twoBest 145 = .ok (.goto 4, 3) := by decide +kernel
theorem dX4_twoBest_148 : decode cX4_twoBest 148 = .ok (.iload_n 2, 1) := by decide +kernel
theorem dX4_twoBest_149 : decode cX4_twoBest 149 = .ok (.istore_n 2, 1) := by decide +kernel
theorem dX4_twoBest_150 : decode cX4_twoBest 150 = .ok (.iinc 6 1, 3) := by decide +kernel
theorem dX4_twoBest_153 : decode cX4_twoBest 153 = .ok (.goto (-71), 3) := by decide +kernel
theorem dX4_twoBest_156 : decode cX4_twoBest 156 = .ok (.aload_n 0, 1) := by decide +kernel
theorem dX4_twoBest_157 : decode cX4_twoBest 157 = .ok (.aload_n 0, 1) := by decide +kernel
theorem dX4_twoBest_158 : decode cX4_twoBest 158 = .ok (.getfield 7, 3) := by decide +kernel
theorem dX4_twoBest_161 : decode cX4_twoBest 161 = .ok (.iconst 1, 1) := by decide +kernel
theorem dX4_twoBest_162 : decode cX4_twoBest 162 = .ok (.iaload, 1) := by decide +kernel
theorem dX4_twoBest_163 : decode cX4_twoBest 163 = .ok (.iload 4, 2) := by decide +kernel
theorem dX4_twoBest_165 : decode cX4_twoBest 165 = .ok (.iload_n 3, 1) := by decide +kernel
theorem dX4_twoBest_166 : decode cX4_twoBest 166 = .ok (.ineg, 1) := by decide +kernel
theorem dX4_twoBest_167 : decode cX4_twoBest 167 = .ok (.invokevirtual 91, 3) := by decide +kernel
theorem dX4_twoBest_170 : decode cX4_twoBest 170 = .ok (.iinc 4 1, 3) := by decide +kernel
theorem dX4_twoBest_173 : decode cX4_twoBest 173 = .ok (.goto (-154), 3) := by decide +kernel
theorem dX4_twoBest_176 : decode cX4_twoBest 176 = .ok (.iload_n 1, 1) := by decide +kernel
theorem dX4_twoBest_177 : decode cX4_twoBest 177 = .ok (.ireturn, 1) := by decide +kernel
theorem dX4_bestTwo_0 : decode cX4_bestTwo 0 = .ok (.aload_n 0, 1) := by decide +kernel
theorem dX4_bestTwo_1 : decode cX4_bestTwo 1 = .ok (.iconst 0, 1) := by decide +kernel
theorem dX4_bestTwo_2 : decode cX4_bestTwo 2 = .ok (.putfield 35, 3) := by decide +kernel
theorem dX4_bestTwo_5 : decode cX4_bestTwo 5 = .ok (.aload_n 0, 1) := by decide +kernel
theorem dX4_bestTwo_6 : decode cX4_bestTwo 6 = .ok (.invokevirtual 224, 3) := by decide +kernel
theorem dX4_bestTwo_9 : decode cX4_bestTwo 9 = .ok (.ireturn, 1) := by decide +kernel
theorem dX4_palestOne_0 : decode cX4_palestOne 0 = .ok (.iconst (-1), 1) := by decide +kernel
theorem dX4_palestOne_1 : decode cX4_palestOne 1 = .ok (.istore_n 1, 1) := by decide +kernel
theorem dX4_palestOne_2 : decode cX4_palestOne 2 = .ok (.iconst 0, 1) := by decide +kernel
theorem dX4_palestOne_3 : decode cX4_palestOne 3 = .ok (.istore_n 2, 1) := by decide +kernel
theorem dX4_palestOne_4 : decode cX4_palestOne 4 = .ok (.iconst 0, 1) := by decide +kernel
theorem dX4_palestOne_5 : decode cX4_palestOne 5 = .ok (.istore_n 3, 1) := by decide +kernel
theorem dX4_palestOne_6 : decode cX4_palestOne 6 = .ok (.iload_n 3, 1) := by decide +kernel
theorem dX4_palestOne_7 : decode cX4_palestOne 7 = .ok (.sipush 144, 3) := by decide +kernel
theorem dX4_palestOne_10 : decode cX4_palestOne 10 = .ok (.if_icmp .ge 52, 3) := by decide +kernel
theorem dX4_palestOne_13 : decode cX4_palestOne 13 = .ok (.aload_n 0, 1) := by decide +kernel
theorem dX4_palestOne_14 : decode cX4_palestOne 14 = .ok (.iload_n 3, 1) := by decide +kernel
theorem dX4_palestOne_15 : decode cX4_palestOne 15 = .ok (.invokevirtual 104, 3) := by decide +kernel
theorem dX4_palestOne_18 : decode cX4_palestOne 18 = .ok (.istore 4, 2) := by decide +kernel
theorem dX4_palestOne_20 : decode cX4_palestOne 20 = .ok (.iload 4, 2) := by decide +kernel
theorem dX4_palestOne_22 : decode cX4_palestOne 22 = .ok (.iload_n 2, 1) := by decide +kernel
theorem dX4_palestOne_23 : decode cX4_palestOne 23 = .ok (.if_icmp .le 18, 3) := by decide +kernel
theorem dX4_palestOne_26 : decode cX4_palestOne 26 = .ok (.bipush 100, 2) := by decide +kernel
theorem dX4_palestOne_28 : decode cX4_palestOne 28 = .ok (.iload_n 3, 1) := by decide +kernel
theorem dX4_palestOne_29 : decode cX4_palestOne 29 = .ok (.bipush 12, 2) := by decide +kernel
theorem dX4_palestOne_31 : decode cX4_palestOne 31 = .ok (.idiv, 1) := by decide +kernel
theorem dX4_palestOne_32 : decode cX4_palestOne 32 = .ok (.imul, 1) := by decide +kernel
theorem dX4_palestOne_33 : decode cX4_palestOne 33 = .ok (.iload_n 3, 1) := by decide +kernel
theorem dX4_palestOne_34 : decode cX4_palestOne 34 = .ok (.bipush 12, 2) := by decide +kernel
theorem dX4_palestOne_36 : decode cX4_palestOne 36 = .ok (.irem, 1) := by decide +kernel
theorem dX4_palestOne_37 : decode cX4_palestOne 37 = .ok (.iadd, 1) := by decide +kernel
theorem dX4_palestOne_38 : decode cX4_palestOne 38 = .ok (.goto 4, 3) := by decide +kernel
theorem dX4_palestOne_41 : decode cX4_palestOne 41 = .ok (.iload_n 1, 1) := by decide +kernel
theorem dX4_palestOne_42 : decode cX4_palestOne 42 = .ok (.istore_n 1, 1) := by decide +kernel
theorem dX4_palestOne_43 : decode cX4_palestOne 43 = .ok (.iload 4, 2) := by decide +kernel
theorem dX4_palestOne_45 : decode cX4_palestOne 45 = .ok (.iload_n 2, 1) := by decide +kernel
theorem dX4_palestOne_46 : decode cX4_palestOne 46 = .ok (.if_icmp .le 8, 3) := by decide +kernel
theorem dX4_palestOne_49 : decode cX4_palestOne 49 = .ok (.iload 4, 2) := by decide +kernel
theorem dX4_palestOne_51 : decode cX4_palestOne 51 = .ok (.goto 4, 3) := by decide +kernel
theorem dX4_palestOne_54 : decode cX4_palestOne 54 = .ok (.iload_n 2, 1) := by decide +kernel
theorem dX4_palestOne_55 : decode cX4_palestOne 55 = .ok (.istore_n 2, 1) := by decide +kernel
theorem dX4_palestOne_56 : decode cX4_palestOne 56 = .ok (.iinc 3 1, 3) := by decide +kernel
theorem dX4_palestOne_59 : decode cX4_palestOne 59 = .ok (.goto (-53), 3) := by decide +kernel
theorem dX4_palestOne_62 : decode cX4_palestOne 62 = .ok (.iload_n 1, 1) := by decide +kernel
theorem dX4_palestOne_63 : decode cX4_palestOne 63 = .ok (.ireturn, 1) := by decide +kernel
theorem dX4_palest_0 : decode cX4_palest 0 = .ok (.aload_n 0, 1) := by decide +kernel
theorem dX4_palest_1 : decode cX4_palest 1 = .ok (.iconst 0, 1) := by decide +kernel
theorem dX4_palest_2 : decode cX4_palest 2 = .ok (.putfield 35, 3) := by decide +kernel
theorem dX4_palest_5 : decode cX4_palest 5 = .ok (.aload_n 0, 1) := by decide +kernel
theorem dX4_palest_6 : decode cX4_palest 6 = .ok (.invokevirtual 227, 3) := by decide +kernel
theorem dX4_palest_9 : decode cX4_palest 9 = .ok (.ireturn, 1) := by decide +kernel
theorem dX4_spoolBest_0 : decode cX4_spoolBest 0 = .ok (.iconst (-1), 1) := by decide +kernel
theorem dX4_spoolBest_1 : decode cX4_spoolBest 1 = .ok (.istore_n 1, 1) := by decide +kernel
theorem dX4_spoolBest_2 : decode cX4_spoolBest 2 = .ok (.ldc 220, 2) := by decide +kernel
theorem dX4_spoolBest_4 : decode cX4_spoolBest 4 = .ok (.istore_n 2, 1) := by decide +kernel
theorem dX4_spoolBest_5 : decode cX4_spoolBest 5 = .ok (.iconst 0, 1) := by decide +kernel
theorem dX4_spoolBest_6 : decode cX4_spoolBest 6 = .ok (.istore_n 3, 1) := by decide +kernel
theorem dX4_spoolBest_7 : decode cX4_spoolBest 7 = .ok (.iload_n 3, 1) := by decide +kernel
theorem dX4_spoolBest_8 : decode cX4_spoolBest 8 = .ok (.iconst 3, 1) := by decide +kernel
theorem dX4_spoolBest_9 : decode cX4_spoolBest 9 = .ok (.if_icmp .ge 71, 3) := by decide +kernel
theorem dX4_spoolBest_12 : decode cX4_spoolBest 12 = .ok (.aload_n 0, 1) := by decide +kernel
theorem dX4_spoolBest_13 : decode cX4_spoolBest 13 = .ok (.iload_n 3, 1) := by decide +kernel
theorem dX4_spoolBest_14 : decode cX4_spoolBest 14 = .ok (.invokevirtual 141, 3) := by decide +kernel
theorem dX4_spoolBest_17 : decode cX4_spoolBest 17 = .ok (.istore 4, 2) := by decide +kernel
theorem dX4_spoolBest_19 : decode cX4_spoolBest 19 = .ok (.iload 4, 2) := by decide +kernel
theorem dX4_spoolBest_21 : decode cX4_spoolBest 21 = .ok (.iconst (-1), 1) := by decide +kernel
theorem dX4_spoolBest_22 : decode cX4_spoolBest 22 = .ok (.if_icmp .ne 8, 3) := by decide +kernel
theorem dX4_spoolBest_25 : decode cX4_spoolBest 25 = .ok (.ldc 220, 2) := by decide +kernel
theorem dX4_spoolBest_27 : decode cX4_spoolBest 27 = .ok (.goto 20, 3) := by decide +kernel
theorem dX4_spoolBest_30 : decode cX4_spoolBest 30 = .ok (.aload_n 0, 1) := by decide +kernel
theorem dX4_spoolBest_31 : decode cX4_spoolBest 31 = .ok (.aload_n 0, 1) := by decide +kernel
theorem dX4_spoolBest_32 : decode cX4_spoolBest 32 = .ok (.getfield 7, 3) := by decide +kernel
theorem dX4_spoolBest_35 : decode cX4_spoolBest 35 = .ok (.iconst 1, 1) := by decide +kernel
theorem dX4_spoolBest_36 : decode cX4_spoolBest 36 = .ok (.iaload, 1) := by decide +kernel
theorem dX4_spoolBest_37 : decode cX4_spoolBest 37 = .ok (.iload 4, 2) := by decide +kernel
theorem dX4_spoolBest_39 : decode cX4_spoolBest 39 = .ok (.aload_n 0, 1) := by decide +kernel
theorem dX4_spoolBest_40 : decode cX4_spoolBest 40 = .ok (.iload_n 3, 1) := by decide +kernel
theorem dX4_spoolBest_41 : decode cX4_spoolBest 41 = .ok (.invokevirtual 88, 3) := by decide +kernel
theorem dX4_spoolBest_44 : decode cX4_spoolBest 44 = .ok (.invokevirtual 111, 3) := by decide +kernel
theorem dX4_spoolBest_47 : decode cX4_spoolBest 47 = .ok (.istore 5, 2) := by decide +kernel
theorem dX4_spoolBest_49 : decode cX4_spoolBest 49 = .ok (.iload 5, 2) := by decide +kernel
theorem dX4_spoolBest_51 : decode cX4_spoolBest 51 = .ok (.iload_n 2, 1) := by decide +kernel
theorem dX4_spoolBest_52 : decode cX4_spoolBest 52 = .ok (.if_icmp .le 7, 3) := by decide +kernel
theorem dX4_spoolBest_55 : decode cX4_spoolBest 55 = .ok (.iload_n 3, 1) := by decide +kernel
theorem dX4_spoolBest_56 : decode cX4_spoolBest 56 = .ok (.goto 4, 3) := by decide +kernel
theorem dX4_spoolBest_59 : decode cX4_spoolBest 59 = .ok (.iload_n 1, 1) := by decide +kernel
theorem dX4_spoolBest_60 : decode cX4_spoolBest 60 = .ok (.istore_n 1, 1) := by decide +kernel
theorem dX4_spoolBest_61 : decode cX4_spoolBest 61 = .ok (.iload 5, 2) := by decide +kernel
theorem dX4_spoolBest_63 : decode cX4_spoolBest 63 = .ok (.iload_n 2, 1) := by decide +kernel
theorem dX4_spoolBest_64 : decode cX4_spoolBest 64 = .ok (.if_icmp .le 8, 3) := by decide +kernel
theorem dX4_spoolBest_67 : decode cX4_spoolBest 67 = .ok (.iload 5, 2) := by decide +kernel
theorem dX4_spoolBest_69 : decode cX4_spoolBest 69 = .ok (.goto 4, 3) := by decide +kernel
theorem dX4_spoolBest_72 : decode cX4_spoolBest 72 = .ok (.iload_n 2, 1) := by decide +kernel
theorem dX4_spoolBest_73 : decode cX4_spoolBest 73 = .ok (.istore_n 2, 1) := by decide +kernel
theorem dX4_spoolBest_74 : decode cX4_spoolBest 74 = .ok (.iinc 3 1, 3) := by decide +kernel
theorem dX4_spoolBest_77 : decode cX4_spoolBest 77 = .ok (.goto (-70), 3) := by decide +kernel
theorem dX4_spoolBest_80 : decode cX4_spoolBest 80 = .ok (.iload_n 1, 1) := by decide +kernel
theorem dX4_spoolBest_81 : decode cX4_spoolBest 81 = .ok (.ireturn, 1) := by decide +kernel
theorem dX4_bestSpool_0 : decode cX4_bestSpool 0 = .ok (.aload_n 0, 1) := by decide +kernel
theorem dX4_bestSpool_1 : decode cX4_bestSpool 1 = .ok (.iconst 0, 1) := by decide +kernel
theorem dX4_bestSpool_2 : decode cX4_bestSpool 2 = .ok (.putfield 35, 3) := by decide +kernel
theorem dX4_bestSpool_5 : decode cX4_bestSpool 5 = .ok (.aload_n 0, 1) := by decide +kernel
theorem dX4_bestSpool_6 : decode cX4_bestSpool 6 = .ok (.invokevirtual 230, 3) := by decide +kernel
theorem dX4_bestSpool_9 : decode cX4_bestSpool 9 = .ok (.ireturn, 1) := by decide +kernel
theorem dX4_share_0 : decode cX4_share 0 = .ok (.aload_n 0, 1) := by decide +kernel
theorem dX4_share_1 : decode cX4_share 1 = .ok (.iconst 0, 1) := by decide +kernel
theorem dX4_share_2 : decode cX4_share 2 = .ok (.invokevirtual 211, 3) := by decide +kernel
theorem dX4_share_5 : decode cX4_share 5 = .ok (.i2d, 1) := by decide +kernel
theorem dX4_share_6 : decode cX4_share 6 = .ok (.ldc2_w 233, 3) := by decide +kernel
theorem dX4_share_9 : decode cX4_share 9 = .ok (.ddiv, 1) := by decide +kernel
theorem dX4_share_10 : decode cX4_share 10 = .ok (.dreturn, 1) := by decide +kernel
theorem dX4_shownShare_0 : decode cX4_shownShare 0 = .ok (.aload_n 0, 1) := by decide +kernel
theorem dX4_shownShare_1 : decode cX4_shownShare 1 = .ok (.iconst 0, 1) := by decide +kernel
theorem dX4_shownShare_2 : decode cX4_shownShare 2 = .ok (.putfield 35, 3) := by decide +kernel
theorem dX4_shownShare_5 : decode cX4_shownShare 5 = .ok (.aload_n 0, 1) := by decide +kernel
theorem dX4_shownShare_6 : decode cX4_shownShare 6 = .ok (.invokevirtual 235, 3) := by decide +kernel
theorem dX4_shownShare_9 : decode cX4_shownShare 9 = .ok (.dreturn, 1) := by decide +kernel
theorem dX4_hashes_0 : decode cX4_hashes 0 = .ok (.aload_n 0, 1) := by decide +kernel
theorem dX4_hashes_1 : decode cX4_hashes 1 = .ok (.ldc2_w 239, 3) := by decide +kernel
theorem dX4_hashes_4 : decode cX4_hashes 4 = .ok (.aload_n 0, 1) := by decide +kernel
theorem dX4_hashes_5 : decode cX4_hashes 5 = .ok (.getfield 241, 3) := by decide +kernel
theorem dX4_hashes_8 : decode cX4_hashes 8 = .ok (.lmul, 1) := by decide +kernel
theorem dX4_hashes_9 : decode cX4_hashes 9 = .ok (.lload_n 1, 1) := by decide +kernel
theorem dX4_hashes_10 : decode cX4_hashes 10 = .ok (.ladd, 1) := by decide +kernel
theorem dX4_hashes_11 : decode cX4_hashes 11 = .ok (.putfield 241, 3) := by decide +kernel
theorem dX4_hashes_14 : decode cX4_hashes 14 = .ok (.return_, 1) := by decide +kernel
theorem dX4_hashesNail_0 : decode cX4_hashesNail 0 = .ok (.iconst 0, 1) := by decide +kernel
theorem dX4_hashesNail_1 : decode cX4_hashesNail 1 = .ok (.istore_n 2, 1) := by decide +kernel
theorem dX4_hashesNail_2 : decode cX4_hashesNail 2 = .ok (.iload_n 2, 1) := by decide +kernel
theorem dX4_hashesNail_3 : decode cX4_hashesNail 3 = .ok (.iconst 4, 1) := by decide +kernel
theorem dX4_hashesNail_4 : decode cX4_hashesNail 4 = .ok (.if_icmp .ge 20, 3) := by decide +kernel
theorem dX4_hashesNail_7 : decode cX4_hashesNail 7 = .ok (.aload_n 0, 1) := by decide +kernel
theorem dX4_hashesNail_8 : decode cX4_hashesNail 8 = .ok (.aload_n 0, 1) := by decide +kernel
theorem dX4_hashesNail_9 : decode cX4_hashesNail 9 = .ok (.iload_n 1, 1) := by decide +kernel
theorem dX4_hashesNail_10 : decode cX4_hashesNail 10 = .ok (.iload_n 2, 1) := by decide +kernel
theorem dX4_hashesNail_11 : decode cX4_hashesNail 11 = .ok (.invokevirtual 190, 3) := by decide +kernel
theorem dX4_hashesNail_14 : decode cX4_hashesNail 14 = .ok (.i2l, 1) := by decide +kernel
theorem dX4_hashesNail_15 : decode cX4_hashesNail 15 = .ok (.invokevirtual 245, 3) := by decide +kernel
theorem dX4_hashesNail_18 : decode cX4_hashesNail 18 = .ok (.iinc 2 1, 3) := by decide +kernel
theorem dX4_hashesNail_21 : decode cX4_hashesNail 21 = .ok (.goto (-19), 3) := by decide +kernel
theorem dX4_hashesNail_24 : decode cX4_hashesNail 24 = .ok (.aload_n 0, 1) := by decide +kernel
theorem dX4_hashesNail_25 : decode cX4_hashesNail 25 = .ok (.aload_n 0, 1) := by decide +kernel
theorem dX4_hashesNail_26 : decode cX4_hashesNail 26 = .ok (.aload_n 0, 1) := by decide +kernel
theorem dX4_hashesNail_27 : decode cX4_hashesNail 27 = .ok (.getfield 7, 3) := by decide +kernel
theorem dX4_hashesNail_30 : decode cX4_hashesNail 30 = .ok (.iconst 1, 1) := by decide +kernel
theorem dX4_hashesNail_31 : decode cX4_hashesNail 31 = .ok (.iaload, 1) := by decide +kernel
theorem dX4_hashesNail_32 : decode cX4_hashesNail 32 = .ok (.iload_n 1, 1) := by decide +kernel
theorem dX4_hashesNail_33 : decode cX4_hashesNail 33 = .ok (.aload_n 0, 1) := by decide +kernel
theorem dX4_hashesNail_34 : decode cX4_hashesNail 34 = .ok (.getfield 7, 3) := by decide +kernel
theorem dX4_hashesNail_37 : decode cX4_hashesNail 37 = .ok (.iconst 2, 1) := by decide +kernel
theorem dX4_hashesNail_38 : decode cX4_hashesNail 38 = .ok (.iaload, 1) := by decide +kernel
theorem dX4_hashesNail_39 : decode cX4_hashesNail 39 = .ok (.invokevirtual 107, 3) := by decide +kernel
theorem dX4_hashesNail_42 : decode cX4_hashesNail 42 = .ok (.i2l, 1) := by decide +kernel
theorem dX4_hashesNail_43 : decode cX4_hashesNail 43 = .ok (.invokevirtual 245, 3) := by decide +kernel
theorem dX4_hashesNail_46 : decode cX4_hashesNail 46 = .ok (.aload_n 0, 1) := by decide +kernel
theorem dX4_hashesNail_47 : decode cX4_hashesNail 47 = .ok (.aload_n 0, 1) := by decide +kernel
theorem dX4_hashesNail_48 : decode cX4_hashesNail 48 = .ok (.iload_n 1, 1) := by decide +kernel
theorem dX4_hashesNail_49 : decode cX4_hashesNail 49 = .ok (.invokevirtual 217, 3) := by decide +kernel
theorem dX4_hashesNail_52 : decode cX4_hashesNail 52 = .ok (.i2l, 1) := by decide +kernel
theorem dX4_hashesNail_53 : decode cX4_hashesNail 53 = .ok (.invokevirtual 245, 3) := by decide +kernel
theorem dX4_hashesNail_56 : decode cX4_hashesNail 56 = .ok (.return_, 1) := by decide +kernel
theorem dX4_hashesLooks_0 : decode cX4_hashesLooks 0 = .ok (.iconst 0, 1) := by decide +kernel
theorem dX4_hashesLooks_1 : decode cX4_hashesLooks 1 = .ok (.istore_n 1, 1) := by decide +kernel
theorem dX4_hashesLooks_2 : decode cX4_hashesLooks 2 = .ok (.iload_n 1, 1) := by decide +kernel
theorem dX4_hashesLooks_3 : decode cX4_hashesLooks 3 = .ok (.bipush 15, 2) := by decide +kernel
theorem dX4_hashesLooks_5 : decode cX4_hashesLooks 5 = .ok (.if_icmp .ge 24, 3) := by decide +kernel
theorem dX4_hashesLooks_8 : decode cX4_hashesLooks 8 = .ok (.aload_n 0, 1) := by decide +kernel
theorem dX4_hashesLooks_9 : decode cX4_hashesLooks 9 = .ok (.aload_n 0, 1) := by decide +kernel
theorem dX4_hashesLooks_10 : decode cX4_hashesLooks 10 = .ok (.iload_n 1, 1) := by decide +kernel
theorem dX4_hashesLooks_11 : decode cX4_hashesLooks 11 = .ok (.iconst 5, 1) := by decide +kernel
theorem dX4_hashesLooks_12 : decode cX4_hashesLooks 12 = .ok (.idiv, 1) := by decide +kernel
theorem dX4_hashesLooks_13 : decode cX4_hashesLooks 13 = .ok (.iload_n 1, 1) := by decide +kernel
theorem dX4_hashesLooks_14 : decode cX4_hashesLooks 14 = .ok (.iconst 5, 1) := by decide +kernel
theorem dX4_hashesLooks_15 : decode cX4_hashesLooks 15 = .ok (.irem, 1) := by decide +kernel
theorem dX4_hashesLooks_16 : decode cX4_hashesLooks 16 = .ok (.invokevirtual 196, 3) := by decide +kernel
theorem dX4_hashesLooks_19 : decode cX4_hashesLooks 19 = .ok (.i2l, 1) := by decide +kernel
theorem dX4_hashesLooks_20 : decode cX4_hashesLooks 20 = .ok (.invokevirtual 245, 3) := by decide +kernel
theorem dX4_hashesLooks_23 : decode cX4_hashesLooks 23 = .ok (.iinc 1 1, 3) := by decide +kernel
theorem dX4_hashesLooks_26 : decode cX4_hashesLooks 26 = .ok (.goto (-24), 3) := by decide +kernel
theorem dX4_hashesLooks_29 : decode cX4_hashesLooks 29 = .ok (.iconst 0, 1) := by decide +kernel
theorem dX4_hashesLooks_30 : decode cX4_hashesLooks 30 = .ok (.istore_n 1, 1) := by decide +kernel
theorem dX4_hashesLooks_31 : decode cX4_hashesLooks 31 = .ok (.iload_n 1, 1) := by decide +kernel
theorem dX4_hashesLooks_32 : decode cX4_hashesLooks 32 = .ok (.bipush 30, 2) := by decide +kernel
theorem dX4_hashesLooks_34 : decode cX4_hashesLooks 34 = .ok (.if_icmp .ge 24, 3) := by decide +kernel
theorem dX4_hashesLooks_37 : decode cX4_hashesLooks 37 = .ok (.aload_n 0, 1) := by decide +kernel
theorem dX4_hashesLooks_38 : decode cX4_hashesLooks 38 = .ok (.aload_n 0, 1) := by decide +kernel
theorem dX4_hashesLooks_39 : decode cX4_hashesLooks 39 = .ok (.iload_n 1, 1) := by decide +kernel
theorem dX4_hashesLooks_40 : decode cX4_hashesLooks 40 = .ok (.iconst 3, 1) := by decide +kernel
theorem dX4_hashesLooks_41 : decode cX4_hashesLooks 41 = .ok (.idiv, 1) := by decide +kernel
theorem dX4_hashesLooks_42 : decode cX4_hashesLooks 42 = .ok (.iload_n 1, 1) := by decide +kernel
theorem dX4_hashesLooks_43 : decode cX4_hashesLooks 43 = .ok (.iconst 3, 1) := by decide +kernel
theorem dX4_hashesLooks_44 : decode cX4_hashesLooks 44 = .ok (.irem, 1) := by decide +kernel
theorem dX4_hashesLooks_45 : decode cX4_hashesLooks 45 = .ok (.invokevirtual 202, 3) := by decide +kernel
theorem dX4_hashesLooks_48 : decode cX4_hashesLooks 48 = .ok (.i2l, 1) := by decide +kernel
theorem dX4_hashesLooks_49 : decode cX4_hashesLooks 49 = .ok (.invokevirtual 245, 3) := by decide +kernel
theorem dX4_hashesLooks_52 : decode cX4_hashesLooks 52 = .ok (.iinc 1 1, 3) := by decide +kernel
theorem dX4_hashesLooks_55 : decode cX4_hashesLooks 55 = .ok (.goto (-24), 3) := by decide +kernel
theorem dX4_hashesLooks_58 : decode cX4_hashesLooks 58 = .ok (.iconst 0, 1) := by decide +kernel
theorem dX4_hashesLooks_59 : decode cX4_hashesLooks 59 = .ok (.istore_n 1, 1) := by decide +kernel
theorem dX4_hashesLooks_60 : decode cX4_hashesLooks 60 = .ok (.iload_n 1, 1) := by decide +kernel
theorem dX4_hashesLooks_61 : decode cX4_hashesLooks 61 = .ok (.sipush 576, 3) := by decide +kernel
theorem dX4_hashesLooks_64 : decode cX4_hashesLooks 64 = .ok (.if_icmp .ge 24, 3) := by decide +kernel
theorem dX4_hashesLooks_67 : decode cX4_hashesLooks 67 = .ok (.aload_n 0, 1) := by decide +kernel
theorem dX4_hashesLooks_68 : decode cX4_hashesLooks 68 = .ok (.aload_n 0, 1) := by decide +kernel
theorem dX4_hashesLooks_69 : decode cX4_hashesLooks 69 = .ok (.iload_n 1, 1) := by decide +kernel
theorem dX4_hashesLooks_70 : decode cX4_hashesLooks 70 = .ok (.iconst 4, 1) := by decide +kernel
theorem dX4_hashesLooks_71 : decode cX4_hashesLooks 71 = .ok (.idiv, 1) := by decide +kernel
theorem dX4_hashesLooks_72 : decode cX4_hashesLooks 72 = .ok (.iload_n 1, 1) := by decide +kernel
theorem dX4_hashesLooks_73 : decode cX4_hashesLooks 73 = .ok (.iconst 4, 1) := by decide +kernel
theorem dX4_hashesLooks_74 : decode cX4_hashesLooks 74 = .ok (.irem, 1) := by decide +kernel
theorem dX4_hashesLooks_75 : decode cX4_hashesLooks 75 = .ok (.invokevirtual 208, 3) := by decide +kernel
theorem dX4_hashesLooks_78 : decode cX4_hashesLooks 78 = .ok (.i2l, 1) := by decide +kernel
theorem dX4_hashesLooks_79 : decode cX4_hashesLooks 79 = .ok (.invokevirtual 245, 3) := by decide +kernel
theorem dX4_hashesLooks_82 : decode cX4_hashesLooks 82 = .ok (.iinc 1 1, 3) := by decide +kernel
theorem dX4_hashesLooks_85 : decode cX4_hashesLooks 85 = .ok (.goto (-25), 3) := by decide +kernel
theorem dX4_hashesLooks_88 : decode cX4_hashesLooks 88 = .ok (.iconst 0, 1) := by decide +kernel
theorem dX4_hashesLooks_89 : decode cX4_hashesLooks 89 = .ok (.istore_n 1, 1) := by decide +kernel
theorem dX4_hashesLooks_90 : decode cX4_hashesLooks 90 = .ok (.iload_n 1, 1) := by decide +kernel
theorem dX4_hashesLooks_91 : decode cX4_hashesLooks 91 = .ok (.bipush 6, 2) := by decide +kernel
theorem dX4_hashesLooks_93 : decode cX4_hashesLooks 93 = .ok (.if_icmp .ge 27, 3) := by decide +kernel
theorem dX4_hashesLooks_96 : decode cX4_hashesLooks 96 = .ok (.aload_n 0, 1) := by decide +kernel
theorem dX4_hashesLooks_97 : decode cX4_hashesLooks 97 = .ok (.aload_n 0, 1) := by decide +kernel
theorem dX4_hashesLooks_98 : decode cX4_hashesLooks 98 = .ok (.iconst 0, 1) := by decide +kernel
theorem dX4_hashesLooks_99 : decode cX4_hashesLooks 99 = .ok (.iconst 1, 1) := by decide +kernel
theorem dX4_hashesLooks_100 : decode cX4_hashesLooks 100 = .ok (.iload_n 1, 1) := by decide +kernel
theorem dX4_hashesLooks_101 : decode cX4_hashesLooks 101 = .ok (.iconst 3, 1) := by decide +kernel
theorem dX4_hashesLooks_102 : decode cX4_hashesLooks 102 = .ok (.idiv, 1) := by decide +kernel
theorem dX4_hashesLooks_103 : decode cX4_hashesLooks 103 = .ok (.iadd, 1) := by decide +kernel
theorem dX4_hashesLooks_104 : decode cX4_hashesLooks 104 = .ok (.iload_n 1, 1) := by decide +kernel
theorem dX4_hashesLooks_105 : decode cX4_hashesLooks 105 = .ok (.iconst 3, 1) := by decide +kernel
theorem dX4_hashesLooks_106 : decode cX4_hashesLooks 106 = .ok (.irem, 1) := by decide +kernel
theorem dX4_hashesLooks_107 : decode cX4_hashesLooks 107 = .ok (.invokevirtual 199, 3) := by decide +kernel
theorem dX4_hashesLooks_110 : decode cX4_hashesLooks 110 = .ok (.i2l, 1) := by decide +kernel
theorem dX4_hashesLooks_111 : decode cX4_hashesLooks 111 = .ok (.invokevirtual 245, 3) := by decide +kernel
theorem dX4_hashesLooks_114 : decode cX4_hashesLooks 114 = .ok (.iinc 1 1, 3) := by decide +kernel
theorem dX4_hashesLooks_117 : decode cX4_hashesLooks 117 = .ok (.goto (-27), 3) := by decide +kernel
theorem dX4_hashesLooks_120 : decode cX4_hashesLooks 120 = .ok (.return_, 1) := by decide +kernel
theorem dX4_digest_0 : decode cX4_digest 0 = .ok (.aload_n 0, 1) := by decide +kernel
theorem dX4_digest_1 : decode cX4_digest 1 = .ok (.iconst 0, 1) := by decide +kernel
theorem dX4_digest_2 : decode cX4_digest 2 = .ok (.putfield 35, 3) := by decide +kernel
theorem dX4_digest_5 : decode cX4_digest 5 = .ok (.aload_n 0, 1) := by decide +kernel
theorem dX4_digest_6 : decode cX4_digest 6 = .ok (.ldc2_w 249, 3) := by decide +kernel
theorem dX4_digest_9 : decode cX4_digest 9 = .ok (.putfield 241, 3) := by decide +kernel
theorem dX4_digest_12 : decode cX4_digest 12 = .ok (.iconst 0, 1) := by decide +kernel
theorem dX4_digest_13 : decode cX4_digest 13 = .ok (.istore_n 1, 1) := by decide +kernel
theorem dX4_digest_14 : decode cX4_digest 14 = .ok (.iload_n 1, 1) := by decide +kernel
theorem dX4_digest_15 : decode cX4_digest 15 = .ok (.bipush 13, 2) := by decide +kernel
theorem dX4_digest_17 : decode cX4_digest 17 = .ok (.if_icmp .ge 19, 3) := by decide +kernel
theorem dX4_digest_20 : decode cX4_digest 20 = .ok (.aload_n 0, 1) := by decide +kernel
theorem dX4_digest_21 : decode cX4_digest 21 = .ok (.aload_n 0, 1) := by decide +kernel
theorem dX4_digest_22 : decode cX4_digest 22 = .ok (.iload_n 1, 1) := by decide +kernel
theorem dX4_digest_23 : decode cX4_digest 23 = .ok (.invokevirtual 214, 3) := by decide +kernel
theorem dX4_digest_26 : decode cX4_digest 26 = .ok (.i2l, 1) := by decide +kernel
theorem dX4_digest_27 : decode cX4_digest 27 = .ok (.invokevirtual 245, 3) := by decide +kernel
theorem dX4_digest_30 : decode cX4_digest 30 = .ok (.iinc 1 1, 3) := by decide +kernel
theorem dX4_digest_33 : decode cX4_digest 33 = .ok (.goto (-19), 3) := by decide +kernel
theorem dX4_digest_36 : decode cX4_digest 36 = .ok (.iconst 0, 1) := by decide +kernel
theorem dX4_digest_37 : decode cX4_digest 37 = .ok (.istore_n 1, 1) := by decide +kernel
theorem dX4_digest_38 : decode cX4_digest 38 = .ok (.iload_n 1, 1) := by decide +kernel
theorem dX4_digest_39 : decode cX4_digest 39 = .ok (.iconst 3, 1) := by decide +kernel
theorem dX4_digest_40 : decode cX4_digest 40 = .ok (.if_icmp .ge 23, 3) := by decide +kernel
theorem dX4_digest_43 : decode cX4_digest 43 = .ok (.aload_n 0, 1) := by decide +kernel
theorem dX4_digest_44 : decode cX4_digest 44 = .ok (.aload_n 0, 1) := by decide +kernel
theorem dX4_digest_45 : decode cX4_digest 45 = .ok (.getfield 7, 3) := by decide +kernel
theorem dX4_digest_48 : decode cX4_digest 48 = .ok (.bipush 6, 2) := by decide +kernel
theorem dX4_digest_50 : decode cX4_digest 50 = .ok (.iload_n 1, 1) := by decide +kernel
theorem dX4_digest_51 : decode cX4_digest 51 = .ok (.iadd, 1) := by decide +kernel
theorem dX4_digest_52 : decode cX4_digest 52 = .ok (.iaload, 1) := by decide +kernel
theorem dX4_digest_53 : decode cX4_digest 53 = .ok (.i2l, 1) := by decide +kernel
theorem dX4_digest_54 : decode cX4_digest 54 = .ok (.invokevirtual 245, 3) := by decide +kernel
theorem dX4_digest_57 : decode cX4_digest 57 = .ok (.iinc 1 1, 3) := by decide +kernel
theorem dX4_digest_60 : decode cX4_digest 60 = .ok (.goto (-22), 3) := by decide +kernel
theorem dX4_digest_63 : decode cX4_digest 63 = .ok (.iconst 0, 1) := by decide +kernel
theorem dX4_digest_64 : decode cX4_digest 64 = .ok (.istore_n 1, 1) := by decide +kernel
theorem dX4_digest_65 : decode cX4_digest 65 = .ok (.iload_n 1, 1) := by decide +kernel
theorem dX4_digest_66 : decode cX4_digest 66 = .ok (.aload_n 0, 1) := by decide +kernel
theorem dX4_digest_67 : decode cX4_digest 67 = .ok (.getfield 7, 3) := by decide +kernel
theorem dX4_digest_70 : decode cX4_digest 70 = .ok (.iconst 0, 1) := by decide +kernel
theorem dX4_digest_71 : decode cX4_digest 71 = .ok (.iaload, 1) := by decide +kernel
theorem dX4_digest_72 : decode cX4_digest 72 = .ok (.if_icmp .ge 14, 3) := by decide +kernel
theorem dX4_digest_75 : decode cX4_digest 75 = .ok (.aload_n 0, 1) := by decide +kernel
theorem dX4_digest_76 : decode cX4_digest 76 = .ok (.iload_n 1, 1) := by decide +kernel
theorem dX4_digest_77 : decode cX4_digest 77 = .ok (.invokevirtual 251, 3) := by decide +kernel
theorem dX4_digest_80 : decode cX4_digest 80 = .ok (.iinc 1 1, 3) := by decide +kernel
theorem dX4_digest_83 : decode cX4_digest 83 = .ok (.goto (-18), 3) := by decide +kernel
theorem dX4_digest_86 : decode cX4_digest 86 = .ok (.aload_n 0, 1) := by decide +kernel
theorem dX4_digest_87 : decode cX4_digest 87 = .ok (.invokevirtual 254, 3) := by decide +kernel
theorem dX4_digest_90 : decode cX4_digest 90 = .ok (.aload_n 0, 1) := by decide +kernel
theorem dX4_digest_91 : decode cX4_digest 91 = .ok (.aload_n 0, 1) := by decide +kernel
theorem dX4_digest_92 : decode cX4_digest 92 = .ok (.aload_n 0, 1) := by decide +kernel
theorem dX4_digest_93 : decode cX4_digest 93 = .ok (.getfield 7, 3) := by decide +kernel
theorem dX4_digest_96 : decode cX4_digest 96 = .ok (.iconst 2, 1) := by decide +kernel
theorem dX4_digest_97 : decode cX4_digest 97 = .ok (.iaload, 1) := by decide +kernel
theorem dX4_digest_98 : decode cX4_digest 98 = .ok (.invokevirtual 141, 3) := by decide +kernel
theorem dX4_digest_101 : decode cX4_digest 101 = .ok (.i2l, 1) := by decide +kernel
theorem dX4_digest_102 : decode cX4_digest 102 = .ok (.invokevirtual 245, 3) := by decide +kernel
theorem dX4_digest_105 : decode cX4_digest 105 = .ok (.aload_n 0, 1) := by decide +kernel
theorem dX4_digest_106 : decode cX4_digest 106 = .ok (.aload_n 0, 1) := by decide +kernel
theorem dX4_digest_107 : decode cX4_digest 107 = .ok (.invokevirtual 224, 3) := by decide +kernel
theorem dX4_digest_110 : decode cX4_digest 110 = .ok (.i2l, 1) := by decide +kernel
theorem dX4_digest_111 : decode cX4_digest 111 = .ok (.invokevirtual 245, 3) := by decide +kernel
theorem dX4_digest_114 : decode cX4_digest 114 = .ok (.aload_n 0, 1) := by decide +kernel
theorem dX4_digest_115 : decode cX4_digest 115 = .ok (.aload_n 0, 1) := by decide +kernel
theorem dX4_digest_116 : decode cX4_digest 116 = .ok (.invokevirtual 227, 3) := by decide +kernel
theorem dX4_digest_119 : decode cX4_digest 119 = .ok (.i2l, 1) := by decide +kernel
theorem dX4_digest_120 : decode cX4_digest 120 = .ok (.invokevirtual 245, 3) := by decide +kernel
theorem dX4_digest_123 : decode cX4_digest 123 = .ok (.aload_n 0, 1) := by decide +kernel
theorem dX4_digest_124 : decode cX4_digest 124 = .ok (.aload_n 0, 1) := by decide +kernel
theorem dX4_digest_125 : decode cX4_digest 125 = .ok (.invokevirtual 230, 3) := by decide +kernel
theorem dX4_digest_128 : decode cX4_digest 128 = .ok (.i2l, 1) := by decide +kernel
theorem dX4_digest_129 : decode cX4_digest 129 = .ok (.invokevirtual 245, 3) := by decide +kernel
theorem dX4_digest_132 : decode cX4_digest 132 = .ok (.aload_n 0, 1) := by decide +kernel
theorem dX4_digest_133 : decode cX4_digest 133 = .ok (.aload_n 0, 1) := by decide +kernel
theorem dX4_digest_134 : decode cX4_digest 134 = .ok (.invokevirtual 235, 3) := by decide +kernel
theorem dX4_digest_137 : decode cX4_digest 137 = .ok (.invokestatic 257, 3) := by decide +kernel
theorem dX4_digest_140 : decode cX4_digest 140 = .ok (.invokevirtual 245, 3) := by decide +kernel
theorem dX4_digest_143 : decode cX4_digest 143 = .ok (.aload_n 0, 1) := by decide +kernel
theorem dX4_digest_144 : decode cX4_digest 144 = .ok (.aload_n 0, 1) := by decide +kernel
theorem dX4_digest_145 : decode cX4_digest 145 = .ok (.getfield 19, 3) := by decide +kernel
theorem dX4_digest_148 : decode cX4_digest 148 = .ok (.iconst 0, 1) := by decide +kernel
theorem dX4_digest_149 : decode cX4_digest 149 = .ok (.baload, 1) := by decide +kernel
theorem dX4_digest_150 : decode cX4_digest 150 = .ok (.ifCond .eq 7, 3) := by decide +kernel
theorem dX4_digest_153 : decode cX4_digest 153 = .ok (.lconst 1, 1) := by decide +kernel
theorem dX4_digest_154 : decode cX4_digest 154 = .ok (.goto 4, 3) := by decide +kernel
theorem dX4_digest_157 : decode cX4_digest 157 = .ok (.lconst 0, 1) := by decide +kernel
theorem dX4_digest_158 : decode cX4_digest 158 = .ok (.invokevirtual 245, 3) := by decide +kernel
theorem dX4_digest_161 : decode cX4_digest 161 = .ok (.aload_n 0, 1) := by decide +kernel
theorem dX4_digest_162 : decode cX4_digest 162 = .ok (.aload_n 0, 1) := by decide +kernel
theorem dX4_digest_163 : decode cX4_digest 163 = .ok (.getfield 19, 3) := by decide +kernel
theorem dX4_digest_166 : decode cX4_digest 166 = .ok (.iconst 1, 1) := by decide +kernel
theorem dX4_digest_167 : decode cX4_digest 167 = .ok (.baload, 1) := by decide +kernel
theorem dX4_digest_168 : decode cX4_digest 168 = .ok (.ifCond .eq 7, 3) := by decide +kernel
theorem dX4_digest_171 : decode cX4_digest 171 = .ok (.lconst 1, 1) := by decide +kernel
theorem dX4_digest_172 : decode cX4_digest 172 = .ok (.goto 4, 3) := by decide +kernel
theorem dX4_digest_175 : decode cX4_digest 175 = .ok (.lconst 0, 1) := by decide +kernel
theorem dX4_digest_176 : decode cX4_digest 176 = .ok (.invokevirtual 245, 3) := by decide +kernel
theorem dX4_digest_179 : decode cX4_digest 179 = .ok (.aload_n 0, 1) := by decide +kernel
theorem dX4_digest_180 : decode cX4_digest 180 = .ok (.aload_n 0, 1) := by decide +kernel
theorem dX4_digest_181 : decode cX4_digest 181 = .ok (.getfield 160, 3) := by decide +kernel
theorem dX4_digest_184 : decode cX4_digest 184 = .ok (.i2l, 1) := by decide +kernel
theorem dX4_digest_185 : decode cX4_digest 185 = .ok (.invokevirtual 245, 3) := by decide +kernel
theorem dX4_digest_188 : decode cX4_digest 188 = .ok (.iconst 0, 1) := by decide +kernel
theorem dX4_digest_189 : decode cX4_digest 189 = .ok (.istore_n 1, 1) := by decide +kernel
theorem dX4_digest_190 : decode cX4_digest 190 = .ok (.iload_n 1, 1) := by decide +kernel
theorem dX4_digest_191 : decode cX4_digest 191 = .ok (.aload_n 0, 1) := by decide +kernel
theorem dX4_digest_192 : decode cX4_digest 192 = .ok (.getfield 160, 3) := by decide +kernel
theorem dX4_digest_195 : decode cX4_digest 195 = .ok (.if_icmp .ge 20, 3) := by decide +kernel
theorem dX4_digest_198 : decode cX4_digest 198 = .ok (.aload_n 0, 1) := by decide +kernel
theorem dX4_digest_199 : decode cX4_digest 199 = .ok (.aload_n 0, 1) := by decide +kernel
theorem dX4_digest_200 : decode cX4_digest 200 = .ok (.getfield 23, 3) := by decide +kernel
theorem dX4_digest_203 : decode cX4_digest 203 = .ok (.iload_n 1, 1) := by decide +kernel
theorem dX4_digest_204 : decode cX4_digest 204 = .ok (.iaload, 1) := by decide +kernel
theorem dX4_digest_205 : decode cX4_digest 205 = .ok (.i2l, 1) := by decide +kernel
theorem dX4_digest_206 : decode cX4_digest 206 = .ok (.invokevirtual 245, 3) := by decide +kernel
theorem dX4_digest_209 : decode cX4_digest 209 = .ok (.iinc 1 1, 3) := by decide +kernel
theorem dX4_digest_212 : decode cX4_digest 212 = .ok (.goto (-22), 3) := by decide +kernel
theorem dX4_digest_215 : decode cX4_digest 215 = .ok (.aload_n 0, 1) := by decide +kernel
theorem dX4_digest_216 : decode cX4_digest 216 = .ok (.getfield 241, 3) := by decide +kernel
theorem dX4_digest_219 : decode cX4_digest 219 = .ok (.lreturn, 1) := by decide +kernel
end
section
theorem dL_nails_0 : decode cL_nails 0 = .ok (.aload_n 2, 1) := by decide +kernel
theorem dL_nails_1 : decode cL_nails 1 = .ok (.iconst 0, 1) := by decide +kernel
theorem dL_nails_2 : decode cL_nails 2 = .ok (.aload_n 0, 1) := by decide +kernel
theorem dL_nails_3 : decode cL_nails 3 = .ok (.iload_n 1, 1) := by decide +kernel
theorem dL_nails_4 : decode cL_nails 4 = .ok (.invokevirtual 7, 3) := by decide +kernel
theorem dL_nails_7 : decode cL_nails 7 = .ok (.i2l, 1) := by decide +kernel
theorem dL_nails_8 : decode cL_nails 8 = .ok (.lastore, 1) := by decide +kernel
theorem dL_nails_9 : decode cL_nails 9 = .ok (.goto 6, 3) := by decide +kernel
theorem dL_nails_12 : decode cL_nails 12 = .ok (.astore_n 3, 1) := by decide +kernel
theorem dL_nails_13 : decode cL_nails 13 = .ok (.iconst 1, 1) := by decide +kernel
theorem dL_nails_14 : decode cL_nails 14 = .ok (.ireturn, 1) := by decide +kernel
theorem dL_nails_15 : decode cL_nails 15 = .ok (.iconst 0, 1) := by decide +kernel
theorem dL_nails_16 : decode cL_nails 16 = .ok (.ireturn, 1) := by decide +kernel
theorem dL_spool_0 : decode cL_spool 0 = .ok (.aload 4, 2) := by decide +kernel
theorem dL_spool_2 : decode cL_spool 2 = .ok (.iconst 0, 1) := by decide +kernel
theorem dL_spool_3 : decode cL_spool 3 = .ok (.aload_n 0, 1) := by decide +kernel
theorem dL_spool_4 : decode cL_spool 4 = .ok (.iload_n 1, 1) := by decide +kernel
theorem dL_spool_5 : decode cL_spool 5 = .ok (.iload_n 2, 1) := by decide +kernel
theorem dL_spool_6 : decode cL_spool 6 = .ok (.iload_n 3, 1) := by decide +kernel
theorem dL_spool_7 : decode cL_spool 7 = .ok (.invokevirtual 15, 3) := by decide +kernel
theorem dL_spool_10 : decode cL_spool 10 = .ok (.i2l, 1) := by decide +kernel
theorem dL_spool_11 : decode cL_spool 11 = .ok (.lastore, 1) := by decide +kernel
theorem dL_spool_12 : decode cL_spool 12 = .ok (.goto 15, 3) := by decide +kernel
theorem dL_spool_15 : decode cL_spool 15 = .ok (.astore 5, 2) := by decide +kernel
theorem dL_spool_17 : decode cL_spool 17 = .ok (.iconst 1, 1) := by decide +kernel
theorem dL_spool_18 : decode cL_spool 18 = .ok (.ireturn, 1) := by decide +kernel
theorem dL_spool_19 : decode cL_spool 19 = .ok (.astore 5, 2) := by decide +kernel
theorem dL_spool_21 : decode cL_spool 21 = .ok (.iconst 2, 1) := by decide +kernel
theorem dL_spool_22 : decode cL_spool 22 = .ok (.ireturn, 1) := by decide +kernel
theorem dL_spool_23 : decode cL_spool 23 = .ok (.astore 5, 2) := by decide +kernel
theorem dL_spool_25 : decode cL_spool 25 = .ok (.iconst 3, 1) := by decide +kernel
theorem dL_spool_26 : decode cL_spool 26 = .ok (.ireturn, 1) := by decide +kernel
theorem dL_spool_27 : decode cL_spool 27 = .ok (.iconst 0, 1) := by decide +kernel
theorem dL_spool_28 : decode cL_spool 28 = .ok (.ireturn, 1) := by decide +kernel
theorem dL_knot_0 : decode cL_knot 0 = .ok (.aload_n 2, 1) := by decide +kernel
theorem dL_knot_1 : decode cL_knot 1 = .ok (.iconst 0, 1) := by decide +kernel
theorem dL_knot_2 : decode cL_knot 2 = .ok (.aload_n 0, 1) := by decide +kernel
theorem dL_knot_3 : decode cL_knot 3 = .ok (.iload_n 1, 1) := by decide +kernel
theorem dL_knot_4 : decode cL_knot 4 = .ok (.invokevirtual 23, 3) := by decide +kernel
theorem dL_knot_7 : decode cL_knot 7 = .ok (.i2l, 1) := by decide +kernel
theorem dL_knot_8 : decode cL_knot 8 = .ok (.lastore, 1) := by decide +kernel
theorem dL_knot_9 : decode cL_knot 9 = .ok (.goto 9, 3) := by decide +kernel
theorem dL_knot_12 : decode cL_knot 12 = .ok (.astore_n 3, 1) := by decide +kernel
theorem dL_knot_13 : decode cL_knot 13 = .ok (.iconst 1, 1) := by decide +kernel
theorem dL_knot_14 : decode cL_knot 14 = .ok (.ireturn, 1) := by decide +kernel
theorem dL_knot_15 : decode cL_knot 15 = .ok (.astore_n 3, 1) := by decide +kernel
theorem dL_knot_16 : decode cL_knot 16 = .ok (.iconst 2, 1) := by decide +kernel
theorem dL_knot_17 : decode cL_knot 17 = .ok (.ireturn, 1) := by decide +kernel
theorem dL_knot_18 : decode cL_knot 18 = .ok (.iconst 0, 1) := by decide +kernel
theorem dL_knot_19 : decode cL_knot 19 = .ok (.ireturn, 1) := by decide +kernel
theorem dL_set_0 : decode cL_set 0 = .ok (.aload_n 3, 1) := by decide +kernel
theorem dL_set_1 : decode cL_set 1 = .ok (.iconst 0, 1) := by decide +kernel
theorem dL_set_2 : decode cL_set 2 = .ok (.aload_n 0, 1) := by decide +kernel
theorem dL_set_3 : decode cL_set 3 = .ok (.iload_n 1, 1) := by decide +kernel
theorem dL_set_4 : decode cL_set 4 = .ok (.iload_n 2, 1) := by decide +kernel
theorem dL_set_5 : decode cL_set 5 = .ok (.invokevirtual 26, 3) := by decide +kernel
theorem dL_set_8 : decode cL_set 8 = .ok (.i2l, 1) := by decide +kernel
theorem dL_set_9 : decode cL_set 9 = .ok (.lastore, 1) := by decide +kernel
theorem dL_set_10 : decode cL_set 10 = .ok (.goto 11, 3) := by decide +kernel
theorem dL_set_13 : decode cL_set 13 = .ok (.astore 4, 2) := by decide +kernel
theorem dL_set_15 : decode cL_set 15 = .ok (.iconst 1, 1) := by decide +kernel
theorem dL_set_16 : decode cL_set 16 = .ok (.ireturn, 1) := by decide +kernel
theorem dL_set_17 : decode cL_set 17 = .ok (.astore 4, 2) := by decide +kernel
theorem dL_set_19 : decode cL_set 19 = .ok (.iconst 2, 1) := by decide +kernel
theorem dL_set_20 : decode cL_set 20 = .ok (.ireturn, 1) := by decide +kernel
theorem dL_set_21 : decode cL_set 21 = .ok (.iconst 0, 1) := by decide +kernel
theorem dL_set_22 : decode cL_set 22 = .ok (.ireturn, 1) := by decide +kernel
theorem dL_wind_0 : decode cL_wind 0 = .ok (.aload_n 2, 1) := by decide +kernel
theorem dL_wind_1 : decode cL_wind 1 = .ok (.iconst 0, 1) := by decide +kernel
theorem dL_wind_2 : decode cL_wind 2 = .ok (.aload_n 0, 1) := by decide +kernel
theorem dL_wind_3 : decode cL_wind 3 = .ok (.iload_n 1, 1) := by decide +kernel
theorem dL_wind_4 : decode cL_wind 4 = .ok (.invokevirtual 30, 3) := by decide +kernel
theorem dL_wind_7 : decode cL_wind 7 = .ok (.i2l, 1) := by decide +kernel
theorem dL_wind_8 : decode cL_wind 8 = .ok (.lastore, 1) := by decide +kernel
theorem dL_wind_9 : decode cL_wind 9 = .ok (.goto 9, 3) := by decide +kernel
theorem dL_wind_12 : decode cL_wind 12 = .ok (.astore_n 3, 1) := by decide +kernel
theorem dL_wind_13 : decode cL_wind 13 = .ok (.iconst 1, 1) := by decide +kernel
theorem dL_wind_14 : decode cL_wind 14 = .ok (.ireturn, 1) := by decide +kernel
theorem dL_wind_15 : decode cL_wind 15 = .ok (.astore_n 3, 1) := by decide +kernel
theorem dL_wind_16 : decode cL_wind 16 = .ok (.iconst 2, 1) := by decide +kernel
theorem dL_wind_17 : decode cL_wind 17 = .ok (.ireturn, 1) := by decide +kernel
theorem dL_wind_18 : decode cL_wind 18 = .ok (.iconst 0, 1) := by decide +kernel
theorem dL_wind_19 : decode cL_wind 19 = .ok (.ireturn, 1) := by decide +kernel
theorem dL_unwind_0 : decode cL_unwind 0 = .ok (.aload_n 1, 1) := by decide +kernel
theorem dL_unwind_1 : decode cL_unwind 1 = .ok (.iconst 0, 1) := by decide +kernel
theorem dL_unwind_2 : decode cL_unwind 2 = .ok (.aload_n 0, 1) := by decide +kernel
theorem dL_unwind_3 : decode cL_unwind 3 = .ok (.invokevirtual 33, 3) := by decide +kernel
theorem dL_unwind_6 : decode cL_unwind 6 = .ok (.i2l, 1) := by decide +kernel
theorem dL_unwind_7 : decode cL_unwind 7 = .ok (.lastore, 1) := by decide +kernel
theorem dL_unwind_8 : decode cL_unwind 8 = .ok (.goto 6, 3) := by decide +kernel
theorem dL_unwind_11 : decode cL_unwind 11 = .ok (.astore_n 2, 1) := by decide +kernel
theorem dL_unwind_12 : decode cL_unwind 12 = .ok (.iconst 1, 1) := by decide +kernel
theorem dL_unwind_13 : decode cL_unwind 13 = .ok (.ireturn, 1) := by decide +kernel
theorem dL_unwind_14 : decode cL_unwind 14 = .ok (.iconst 0, 1) := by decide +kernel
theorem dL_unwind_15 : decode cL_unwind 15 = .ok (.ireturn, 1) := by decide +kernel
theorem dL_windBest_0 : decode cL_windBest 0 = .ok (.aload_n 2, 1) := by decide +kernel
theorem dL_windBest_1 : decode cL_windBest 1 = .ok (.iconst 0, 1) := by decide +kernel
theorem dL_windBest_2 : decode cL_windBest 2 = .ok (.aload_n 0, 1) := by decide +kernel
theorem dL_windBest_3 : decode cL_windBest 3 = .ok (.iload_n 1, 1) := by decide +kernel
theorem dL_windBest_4 : decode cL_windBest 4 = .ok (.invokevirtual 37, 3) := by decide +kernel
theorem dL_windBest_7 : decode cL_windBest 7 = .ok (.i2l, 1) := by decide +kernel
theorem dL_windBest_8 : decode cL_windBest 8 = .ok (.lastore, 1) := by decide +kernel
theorem dL_windBest_9 : decode cL_windBest 9 = .ok (.goto 6, 3) := by decide +kernel
theorem dL_windBest_12 : decode cL_windBest 12 = .ok (.astore_n 3, 1) := by decide +kernel
theorem dL_windBest_13 : decode cL_windBest 13 = .ok (.iconst 1, 1) := by decide +kernel
theorem dL_windBest_14 : decode cL_windBest 14 = .ok (.ireturn, 1) := by decide +kernel
theorem dL_windBest_15 : decode cL_windBest 15 = .ok (.iconst 0, 1) := by decide +kernel
theorem dL_windBest_16 : decode cL_windBest 16 = .ok (.ireturn, 1) := by decide +kernel
theorem dL_want_0 : decode cL_want 0 = .ok (.aload 4, 2) := by decide +kernel
theorem dL_want_2 : decode cL_want 2 = .ok (.iconst 0, 1) := by decide +kernel
theorem dL_want_3 : decode cL_want 3 = .ok (.aload_n 0, 1) := by decide +kernel
theorem dL_want_4 : decode cL_want 4 = .ok (.iload_n 1, 1) := by decide +kernel
theorem dL_want_5 : decode cL_want 5 = .ok (.iload_n 2, 1) := by decide +kernel
theorem dL_want_6 : decode cL_want 6 = .ok (.iload_n 3, 1) := by decide +kernel
theorem dL_want_7 : decode cL_want 7 = .ok (.invokevirtual 40, 3) := by decide +kernel
theorem dL_want_10 : decode cL_want 10 = .ok (.i2l, 1) := by decide +kernel
theorem dL_want_11 : decode cL_want 11 = .ok (.lastore, 1) := by decide +kernel
theorem dL_want_12 : decode cL_want 12 = .ok (.goto 11, 3) := by decide +kernel
theorem dL_want_15 : decode cL_want 15 = .ok (.astore 5, 2) := by decide +kernel
theorem dL_want_17 : decode cL_want 17 = .ok (.iconst 1, 1) := by decide +kernel
theorem dL_want_18 : decode cL_want 18 = .ok (.ireturn, 1) := by decide +kernel
theorem dL_want_19 : decode cL_want 19 = .ok (.astore 5, 2) := by decide +kernel
theorem dL_want_21 : decode cL_want 21 = .ok (.iconst 2, 1) := by decide +kernel
theorem dL_want_22 : decode cL_want 22 = .ok (.ireturn, 1) := by decide +kernel
theorem dL_want_23 : decode cL_want 23 = .ok (.iconst 0, 1) := by decide +kernel
theorem dL_want_24 : decode cL_want 24 = .ok (.ireturn, 1) := by decide +kernel
theorem dL_turnFace_0 : decode cL_turnFace 0 = .ok (.aload_n 2, 1) := by decide +kernel
theorem dL_turnFace_1 : decode cL_turnFace 1 = .ok (.iconst 0, 1) := by decide +kernel
theorem dL_turnFace_2 : decode cL_turnFace 2 = .ok (.aload_n 0, 1) := by decide +kernel
theorem dL_turnFace_3 : decode cL_turnFace 3 = .ok (.iload_n 1, 1) := by decide +kernel
theorem dL_turnFace_4 : decode cL_turnFace 4 = .ok (.invokevirtual 43, 3) := by decide +kernel
theorem dL_turnFace_7 : decode cL_turnFace 7 = .ok (.i2l, 1) := by decide +kernel
theorem dL_turnFace_8 : decode cL_turnFace 8 = .ok (.lastore, 1) := by decide +kernel
theorem dL_turnFace_9 : decode cL_turnFace 9 = .ok (.goto 6, 3) := by decide +kernel
theorem dL_turnFace_12 : decode cL_turnFace 12 = .ok (.astore_n 3, 1) := by decide +kernel
theorem dL_turnFace_13 : decode cL_turnFace 13 = .ok (.iconst 1, 1) := by decide +kernel
theorem dL_turnFace_14 : decode cL_turnFace 14 = .ok (.ireturn, 1) := by decide +kernel
theorem dL_turnFace_15 : decode cL_turnFace 15 = .ok (.iconst 0, 1) := by decide +kernel
theorem dL_turnFace_16 : decode cL_turnFace 16 = .ok (.ireturn, 1) := by decide +kernel
theorem dL_append_0 : decode cL_append 0 = .ok (.aload_n 2, 1) := by decide +kernel
theorem dL_append_1 : decode cL_append 1 = .ok (.iconst 0, 1) := by decide +kernel
theorem dL_append_2 : decode cL_append 2 = .ok (.aload_n 0, 1) := by decide +kernel
theorem dL_append_3 : decode cL_append 3 = .ok (.iload_n 1, 1) := by decide +kernel
theorem dL_append_4 : decode cL_append 4 = .ok (.invokevirtual 46, 3) := by decide +kernel
theorem dL_append_7 : decode cL_append 7 = .ok (.i2l, 1) := by decide +kernel
theorem dL_append_8 : decode cL_append 8 = .ok (.lastore, 1) := by decide +kernel
theorem dL_append_9 : decode cL_append 9 = .ok (.goto 9, 3) := by decide +kernel
theorem dL_append_12 : decode cL_append 12 = .ok (.astore_n 3, 1) := by decide +kernel
theorem dL_append_13 : decode cL_append 13 = .ok (.iconst 1, 1) := by decide +kernel
theorem dL_append_14 : decode cL_append 14 = .ok (.ireturn, 1) := by decide +kernel
theorem dL_append_15 : decode cL_append 15 = .ok (.astore_n 3, 1) := by decide +kernel
theorem dL_append_16 : decode cL_append 16 = .ok (.iconst 2, 1) := by decide +kernel
theorem dL_append_17 : decode cL_append 17 = .ok (.ireturn, 1) := by decide +kernel
theorem dL_append_18 : decode cL_append 18 = .ok (.iconst 0, 1) := by decide +kernel
theorem dL_append_19 : decode cL_append 19 = .ok (.ireturn, 1) := by decide +kernel
theorem dL_load_0 : decode cL_load 0 = .ok (.aload_n 1, 1) := by decide +kernel
theorem dL_load_1 : decode cL_load 1 = .ok (.iconst 0, 1) := by decide +kernel
theorem dL_load_2 : decode cL_load 2 = .ok (.aload_n 0, 1) := by decide +kernel
theorem dL_load_3 : decode cL_load 3 = .ok (.invokevirtual 49, 3) := by decide +kernel
theorem dL_load_6 : decode cL_load 6 = .ok (.i2l, 1) := by decide +kernel
theorem dL_load_7 : decode cL_load 7 = .ok (.lastore, 1) := by decide +kernel
theorem dL_load_8 : decode cL_load 8 = .ok (.goto 6, 3) := by decide +kernel
theorem dL_load_11 : decode cL_load 11 = .ok (.astore_n 2, 1) := by decide +kernel
theorem dL_load_12 : decode cL_load 12 = .ok (.iconst 1, 1) := by decide +kernel
theorem dL_load_13 : decode cL_load 13 = .ok (.ireturn, 1) := by decide +kernel
theorem dL_load_14 : decode cL_load 14 = .ok (.iconst 0, 1) := by decide +kernel
theorem dL_load_15 : decode cL_load 15 = .ok (.ireturn, 1) := by decide +kernel
theorem dL_keep_0 : decode cL_keep 0 = .ok (.aload_n 2, 1) := by decide +kernel
theorem dL_keep_1 : decode cL_keep 1 = .ok (.iconst 0, 1) := by decide +kernel
theorem dL_keep_2 : decode cL_keep 2 = .ok (.aload_n 0, 1) := by decide +kernel
theorem dL_keep_3 : decode cL_keep 3 = .ok (.iload_n 1, 1) := by decide +kernel
theorem dL_keep_4 : decode cL_keep 4 = .ok (.invokevirtual 52, 3) := by decide +kernel
theorem dL_keep_7 : decode cL_keep 7 = .ok (.i2l, 1) := by decide +kernel
theorem dL_keep_8 : decode cL_keep 8 = .ok (.lastore, 1) := by decide +kernel
theorem dL_keep_9 : decode cL_keep 9 = .ok (.goto 6, 3) := by decide +kernel
theorem dL_keep_12 : decode cL_keep 12 = .ok (.astore_n 3, 1) := by decide +kernel
theorem dL_keep_13 : decode cL_keep 13 = .ok (.iconst 1, 1) := by decide +kernel
theorem dL_keep_14 : decode cL_keep 14 = .ok (.ireturn, 1) := by decide +kernel
theorem dL_keep_15 : decode cL_keep 15 = .ok (.iconst 0, 1) := by decide +kernel
theorem dL_keep_16 : decode cL_keep 16 = .ok (.ireturn, 1) := by decide +kernel
theorem dL_goBack_0 : decode cL_goBack 0 = .ok (.aload_n 2, 1) := by decide +kernel
theorem dL_goBack_1 : decode cL_goBack 1 = .ok (.iconst 0, 1) := by decide +kernel
theorem dL_goBack_2 : decode cL_goBack 2 = .ok (.aload_n 0, 1) := by decide +kernel
theorem dL_goBack_3 : decode cL_goBack 3 = .ok (.iload_n 1, 1) := by decide +kernel
theorem dL_goBack_4 : decode cL_goBack 4 = .ok (.invokevirtual 55, 3) := by decide +kernel
theorem dL_goBack_7 : decode cL_goBack 7 = .ok (.i2l, 1) := by decide +kernel
theorem dL_goBack_8 : decode cL_goBack 8 = .ok (.lastore, 1) := by decide +kernel
theorem dL_goBack_9 : decode cL_goBack 9 = .ok (.goto 9, 3) := by decide +kernel
theorem dL_goBack_12 : decode cL_goBack 12 = .ok (.astore_n 3, 1) := by decide +kernel
theorem dL_goBack_13 : decode cL_goBack 13 = .ok (.iconst 1, 1) := by decide +kernel
theorem dL_goBack_14 : decode cL_goBack 14 = .ok (.ireturn, 1) := by decide +kernel
theorem dL_goBack_15 : decode cL_goBack 15 = .ok (.astore_n 3, 1) := by decide +kernel
theorem dL_goBack_16 : decode cL_goBack 16 = .ok (.iconst 2, 1) := by decide +kernel
theorem dL_goBack_17 : decode cL_goBack 17 = .ok (.ireturn, 1) := by decide +kernel
theorem dL_goBack_18 : decode cL_goBack 18 = .ok (.iconst 0, 1) := by decide +kernel
theorem dL_goBack_19 : decode cL_goBack 19 = .ok (.ireturn, 1) := by decide +kernel
theorem dL_undo_0 : decode cL_undo 0 = .ok (.aload_n 1, 1) := by decide +kernel
theorem dL_undo_1 : decode cL_undo 1 = .ok (.iconst 0, 1) := by decide +kernel
theorem dL_undo_2 : decode cL_undo 2 = .ok (.aload_n 0, 1) := by decide +kernel
theorem dL_undo_3 : decode cL_undo 3 = .ok (.invokevirtual 58, 3) := by decide +kernel
theorem dL_undo_6 : decode cL_undo 6 = .ok (.i2l, 1) := by decide +kernel
theorem dL_undo_7 : decode cL_undo 7 = .ok (.lastore, 1) := by decide +kernel
theorem dL_undo_8 : decode cL_undo 8 = .ok (.goto 6, 3) := by decide +kernel
theorem dL_undo_11 : decode cL_undo 11 = .ok (.astore_n 2, 1) := by decide +kernel
theorem dL_undo_12 : decode cL_undo 12 = .ok (.iconst 1, 1) := by decide +kernel
theorem dL_undo_13 : decode cL_undo 13 = .ok (.ireturn, 1) := by decide +kernel
theorem dL_undo_14 : decode cL_undo 14 = .ok (.iconst 0, 1) := by decide +kernel
theorem dL_undo_15 : decode cL_undo 15 = .ok (.ireturn, 1) := by decide +kernel
theorem dL_nailOf_0 : decode cL_nailOf 0 = .ok (.aload_n 3, 1) := by decide +kernel
theorem dL_nailOf_1 : decode cL_nailOf 1 = .ok (.iconst 0, 1) := by decide +kernel
theorem dL_nailOf_2 : decode cL_nailOf 2 = .ok (.aload_n 0, 1) := by decide +kernel
theorem dL_nailOf_3 : decode cL_nailOf 3 = .ok (.iload_n 1, 1) := by decide +kernel
theorem dL_nailOf_4 : decode cL_nailOf 4 = .ok (.iload_n 2, 1) := by decide +kernel
theorem dL_nailOf_5 : decode cL_nailOf 5 = .ok (.invokevirtual 61, 3) := by decide +kernel
theorem dL_nailOf_8 : decode cL_nailOf 8 = .ok (.i2l, 1) := by decide +kernel
theorem dL_nailOf_9 : decode cL_nailOf 9 = .ok (.lastore, 1) := by decide +kernel
theorem dL_nailOf_10 : decode cL_nailOf 10 = .ok (.goto 11, 3) := by decide +kernel
theorem dL_nailOf_13 : decode cL_nailOf 13 = .ok (.astore 4, 2) := by decide +kernel
theorem dL_nailOf_15 : decode cL_nailOf 15 = .ok (.iconst 1, 1) := by decide +kernel
theorem dL_nailOf_16 : decode cL_nailOf 16 = .ok (.ireturn, 1) := by decide +kernel
theorem dL_nailOf_17 : decode cL_nailOf 17 = .ok (.astore 4, 2) := by decide +kernel
theorem dL_nailOf_19 : decode cL_nailOf 19 = .ok (.iconst 2, 1) := by decide +kernel
theorem dL_nailOf_20 : decode cL_nailOf 20 = .ok (.ireturn, 1) := by decide +kernel
theorem dL_nailOf_21 : decode cL_nailOf 21 = .ok (.iconst 0, 1) := by decide +kernel
theorem dL_nailOf_22 : decode cL_nailOf 22 = .ok (.ireturn, 1) := by decide +kernel
theorem dL_spoolOf_0 : decode cL_spoolOf 0 = .ok (.aload_n 3, 1) := by decide +kernel
theorem dL_spoolOf_1 : decode cL_spoolOf 1 = .ok (.iconst 0, 1) := by decide +kernel
theorem dL_spoolOf_2 : decode cL_spoolOf 2 = .ok (.aload_n 0, 1) := by decide +kernel
theorem dL_spoolOf_3 : decode cL_spoolOf 3 = .ok (.iload_n 1, 1) := by decide +kernel
theorem dL_spoolOf_4 : decode cL_spoolOf 4 = .ok (.iload_n 2, 1) := by decide +kernel
theorem dL_spoolOf_5 : decode cL_spoolOf 5 = .ok (.invokevirtual 64, 3) := by decide +kernel
theorem dL_spoolOf_8 : decode cL_spoolOf 8 = .ok (.i2l, 1) := by decide +kernel
theorem dL_spoolOf_9 : decode cL_spoolOf 9 = .ok (.lastore, 1) := by decide +kernel
theorem dL_spoolOf_10 : decode cL_spoolOf 10 = .ok (.goto 11, 3) := by decide +kernel
theorem dL_spoolOf_13 : decode cL_spoolOf 13 = .ok (.astore 4, 2) := by decide +kernel
theorem dL_spoolOf_15 : decode cL_spoolOf 15 = .ok (.iconst 1, 1) := by decide +kernel
theorem dL_spoolOf_16 : decode cL_spoolOf 16 = .ok (.ireturn, 1) := by decide +kernel
theorem dL_spoolOf_17 : decode cL_spoolOf 17 = .ok (.astore 4, 2) := by decide +kernel
theorem dL_spoolOf_19 : decode cL_spoolOf 19 = .ok (.iconst 2, 1) := by decide +kernel
theorem dL_spoolOf_20 : decode cL_spoolOf 20 = .ok (.ireturn, 1) := by decide +kernel
theorem dL_spoolOf_21 : decode cL_spoolOf 21 = .ok (.iconst 0, 1) := by decide +kernel
theorem dL_spoolOf_22 : decode cL_spoolOf 22 = .ok (.ireturn, 1) := by decide +kernel
theorem dL_chord_0 : decode cL_chord 0 = .ok (.aload 4, 2) := by decide +kernel
theorem dL_chord_2 : decode cL_chord 2 = .ok (.iconst 0, 1) := by decide +kernel
theorem dL_chord_3 : decode cL_chord 3 = .ok (.aload_n 0, 1) := by decide +kernel
theorem dL_chord_4 : decode cL_chord 4 = .ok (.iload_n 1, 1) := by decide +kernel
theorem dL_chord_5 : decode cL_chord 5 = .ok (.iload_n 2, 1) := by decide +kernel
theorem dL_chord_6 : decode cL_chord 6 = .ok (.iload_n 3, 1) := by decide +kernel
theorem dL_chord_7 : decode cL_chord 7 = .ok (.invokevirtual 67, 3) := by decide +kernel
theorem dL_chord_10 : decode cL_chord 10 = .ok (.i2l, 1) := by decide +kernel
theorem dL_chord_11 : decode cL_chord 11 = .ok (.lastore, 1) := by decide +kernel
theorem dL_chord_12 : decode cL_chord 12 = .ok (.goto 11, 3) := by decide +kernel
theorem dL_chord_15 : decode cL_chord 15 = .ok (.astore 5, 2) := by decide +kernel
theorem dL_chord_17 : decode cL_chord 17 = .ok (.iconst 1, 1) := by decide +kernel
theorem dL_chord_18 : decode cL_chord 18 = .ok (.ireturn, 1) := by decide +kernel
theorem dL_chord_19 : decode cL_chord 19 = .ok (.astore 5, 2) := by decide +kernel
theorem dL_chord_21 : decode cL_chord 21 = .ok (.iconst 2, 1) := by decide +kernel
theorem dL_chord_22 : decode cL_chord 22 = .ok (.ireturn, 1) := by decide +kernel
theorem dL_chord_23 : decode cL_chord 23 = .ok (.iconst 0, 1) := by decide +kernel
theorem dL_chord_24 : decode cL_chord 24 = .ok (.ireturn, 1) := by decide +kernel
theorem dL_wound_0 : decode cL_wound 0 = .ok (.aload_n 3, 1) := by decide +kernel
theorem dL_wound_1 : decode cL_wound 1 = .ok (.iconst 0, 1) := by decide +kernel
theorem dL_wound_2 : decode cL_wound 2 = .ok (.aload_n 0, 1) := by decide +kernel
theorem dL_wound_3 : decode cL_wound 3 = .ok (.iload_n 1, 1) := by decide +kernel
theorem dL_wound_4 : decode cL_wound 4 = .ok (.iload_n 2, 1) := by decide +kernel
theorem dL_wound_5 : decode cL_wound 5 = .ok (.invokevirtual 70, 3) := by decide +kernel
theorem dL_wound_8 : decode cL_wound 8 = .ok (.i2l, 1) := by decide +kernel
theorem dL_wound_9 : decode cL_wound 9 = .ok (.lastore, 1) := by decide +kernel
theorem dL_wound_10 : decode cL_wound 10 = .ok (.goto 7, 3) := by decide +kernel
theorem dL_wound_13 : decode cL_wound 13 = .ok (.astore 4, 2) := by decide +kernel
theorem dL_wound_15 : decode cL_wound 15 = .ok (.iconst 1, 1) := by decide +kernel
theorem dL_wound_16 : decode cL_wound 16 = .ok (.ireturn, 1) := by decide +kernel
theorem dL_wound_17 : decode cL_wound 17 = .ok (.iconst 0, 1) := by decide +kernel
theorem dL_wound_18 : decode cL_wound 18 = .ok (.ireturn, 1) := by decide +kernel
theorem dL_square_0 : decode cL_square 0 = .ok (.aload 4, 2) := by decide +kernel
theorem dL_square_2 : decode cL_square 2 = .ok (.iconst 0, 1) := by decide +kernel
theorem dL_square_3 : decode cL_square 3 = .ok (.aload_n 0, 1) := by decide +kernel
theorem dL_square_4 : decode cL_square 4 = .ok (.iload_n 1, 1) := by decide +kernel
theorem dL_square_5 : decode cL_square 5 = .ok (.iload_n 2, 1) := by decide +kernel
theorem dL_square_6 : decode cL_square 6 = .ok (.iload_n 3, 1) := by decide +kernel
theorem dL_square_7 : decode cL_square 7 = .ok (.invokevirtual 73, 3) := by decide +kernel
theorem dL_square_10 : decode cL_square 10 = .ok (.i2l, 1) := by decide +kernel
theorem dL_square_11 : decode cL_square 11 = .ok (.lastore, 1) := by decide +kernel
theorem dL_square_12 : decode cL_square 12 = .ok (.goto 11, 3) := by decide +kernel
theorem dL_square_15 : decode cL_square 15 = .ok (.astore 5, 2) := by decide +kernel
theorem dL_square_17 : decode cL_square 17 = .ok (.iconst 1, 1) := by decide +kernel
theorem dL_square_18 : decode cL_square 18 = .ok (.ireturn, 1) := by decide +kernel
theorem dL_square_19 : decode cL_square 19 = .ok (.astore 5, 2) := by decide +kernel
theorem dL_square_21 : decode cL_square 21 = .ok (.iconst 2, 1) := by decide +kernel
theorem dL_square_22 : decode cL_square 22 = .ok (.ireturn, 1) := by decide +kernel
theorem dL_square_23 : decode cL_square 23 = .ok (.iconst 0, 1) := by decide +kernel
theorem dL_square_24 : decode cL_square 24 = .ok (.ireturn, 1) := by decide +kernel
theorem dL_count_0 : decode cL_count 0 = .ok (.aload_n 2, 1) := by decide +kernel
theorem dL_count_1 : decode cL_count 1 = .ok (.iconst 0, 1) := by decide +kernel
theorem dL_count_2 : decode cL_count 2 = .ok (.aload_n 0, 1) := by decide +kernel
theorem dL_count_3 : decode cL_count 3 = .ok (.iload_n 1, 1) := by decide +kernel
theorem dL_count_4 : decode cL_count 4 = .ok (.invokevirtual 76, 3) := by decide +kernel
theorem dL_count_7 : decode cL_count 7 = .ok (.i2l, 1) := by decide +kernel
theorem dL_count_8 : decode cL_count 8 = .ok (.lastore, 1) := by decide +kernel
theorem dL_count_9 : decode cL_count 9 = .ok (.goto 6, 3) := by decide +kernel
theorem dL_count_12 : decode cL_count 12 = .ok (.astore_n 3, 1) := by decide +kernel
theorem dL_count_13 : decode cL_count 13 = .ok (.iconst 1, 1) := by decide +kernel
theorem dL_count_14 : decode cL_count 14 = .ok (.ireturn, 1) := by decide +kernel
theorem dL_count_15 : decode cL_count 15 = .ok (.iconst 0, 1) := by decide +kernel
theorem dL_count_16 : decode cL_count 16 = .ok (.ireturn, 1) := by decide +kernel
theorem dL_setting_0 : decode cL_setting 0 = .ok (.aload_n 2, 1) := by decide +kernel
theorem dL_setting_1 : decode cL_setting 1 = .ok (.iconst 0, 1) := by decide +kernel
theorem dL_setting_2 : decode cL_setting 2 = .ok (.aload_n 0, 1) := by decide +kernel
theorem dL_setting_3 : decode cL_setting 3 = .ok (.iload_n 1, 1) := by decide +kernel
theorem dL_setting_4 : decode cL_setting 4 = .ok (.invokevirtual 79, 3) := by decide +kernel
theorem dL_setting_7 : decode cL_setting 7 = .ok (.i2l, 1) := by decide +kernel
theorem dL_setting_8 : decode cL_setting 8 = .ok (.lastore, 1) := by decide +kernel
theorem dL_setting_9 : decode cL_setting 9 = .ok (.goto 6, 3) := by decide +kernel
theorem dL_setting_12 : decode cL_setting 12 = .ok (.astore_n 3, 1) := by decide +kernel
theorem dL_setting_13 : decode cL_setting 13 = .ok (.iconst 1, 1) := by decide +kernel
theorem dL_setting_14 : decode cL_setting 14 = .ok (.ireturn, 1) := by decide +kernel
theorem dL_setting_15 : decode cL_setting 15 = .ok (.iconst 0, 1) := by decide +kernel
theorem dL_setting_16 : decode cL_setting 16 = .ok (.ireturn, 1) := by decide +kernel
theorem dL_whyNot_0 : decode cL_whyNot 0 = .ok (.aload_n 2, 1) := by decide +kernel
theorem dL_whyNot_1 : decode cL_whyNot 1 = .ok (.iconst 0, 1) := by decide +kernel
theorem dL_whyNot_2 : decode cL_whyNot 2 = .ok (.aload_n 0, 1) := by decide +kernel
theorem dL_whyNot_3 : decode cL_whyNot 3 = .ok (.iload_n 1, 1) := by decide +kernel
theorem dL_whyNot_4 : decode cL_whyNot 4 = .ok (.invokevirtual 82, 3) := by decide +kernel
theorem dL_whyNot_7 : decode cL_whyNot 7 = .ok (.i2l, 1) := by decide +kernel
theorem dL_whyNot_8 : decode cL_whyNot 8 = .ok (.lastore, 1) := by decide +kernel
theorem dL_whyNot_9 : decode cL_whyNot 9 = .ok (.goto 6, 3) := by decide +kernel
theorem dL_whyNot_12 : decode cL_whyNot 12 = .ok (.astore_n 3, 1) := by decide +kernel
theorem dL_whyNot_13 : decode cL_whyNot 13 = .ok (.iconst 1, 1) := by decide +kernel
theorem dL_whyNot_14 : decode cL_whyNot 14 = .ok (.ireturn, 1) := by decide +kernel
theorem dL_whyNot_15 : decode cL_whyNot 15 = .ok (.iconst 0, 1) := by decide +kernel
theorem dL_whyNot_16 : decode cL_whyNot 16 = .ok (.ireturn, 1) := by decide +kernel
theorem dL_gain_0 : decode cL_gain 0 = .ok (.aload_n 2, 1) := by decide +kernel
theorem dL_gain_1 : decode cL_gain 1 = .ok (.iconst 0, 1) := by decide +kernel
theorem dL_gain_2 : decode cL_gain 2 = .ok (.aload_n 0, 1) := by decide +kernel
theorem dL_gain_3 : decode cL_gain 3 = .ok (.iload_n 1, 1) := by decide +kernel
theorem dL_gain_4 : decode cL_gain 4 = .ok (.invokevirtual 85, 3) := by decide +kernel
theorem dL_gain_7 : decode cL_gain 7 = .ok (.i2l, 1) := by decide +kernel
theorem dL_gain_8 : decode cL_gain 8 = .ok (.lastore, 1) := by decide +kernel
theorem dL_gain_9 : decode cL_gain 9 = .ok (.goto 6, 3) := by decide +kernel
theorem dL_gain_12 : decode cL_gain 12 = .ok (.astore_n 3, 1) := by decide +kernel
theorem dL_gain_13 : decode cL_gain 13 = .ok (.iconst 1, 1) := by decide +kernel
theorem dL_gain_14 : decode cL_gain 14 = .ok (.ireturn, 1) := by decide +kernel
theorem dL_gain_15 : decode cL_gain 15 = .ok (.iconst 0, 1) := by decide +kernel
theorem dL_gain_16 : decode cL_gain 16 = .ok (.ireturn, 1) := by decide +kernel
theorem dL_law_0 : decode cL_law 0 = .ok (.new 8, 3) := by decide +kernel
theorem dL_law_3 : decode cL_law 3 = .ok (.dup, 1) := by decide +kernel
theorem dL_law_4 : decode cL_law 4 = .ok (.invokespecial 88, 3) := by decide +kernel
theorem dL_law_7 : decode cL_law 7 = .ok (.astore_n 1, 1) := by decide +kernel
theorem dL_law_8 : decode cL_law 8 = .ok (.new 89, 3) := by decide +kernel
theorem dL_law_11 : decode cL_law 11 = .ok (.dup, 1) := by decide +kernel
theorem dL_law_12 : decode cL_law 12 = .ok (.invokespecial 91, 3) := by decide +kernel
theorem dL_law_15 : decode cL_law 15 = .ok (.astore_n 2, 1) := by decide +kernel
theorem dL_law_16 : decode cL_law 16 = .ok (.iconst 1, 1) := by decide +kernel
theorem dL_law_17 : decode cL_law 17 = .ok (.newarray .long, 2) := by decide +kernel
theorem dL_law_19 : decode cL_law 19 = .ok (.astore_n 3, 1) := by decide +kernel
theorem dL_law_20 : decode cL_law 20 = .ok (.iconst 0, 1) := by decide +kernel
theorem dL_law_21 : decode cL_law 21 = .ok (.istore 4, 2) := by decide +kernel
theorem dL_law_23 : decode cL_law 23 = .ok (.iload 4, 2) := by decide +kernel
theorem dL_law_25 : decode cL_law 25 = .ok (.aload_n 0, 1) := by decide +kernel
theorem dL_law_26 : decode cL_law 26 = .ok (.arraylength, 1) := by decide +kernel
theorem dL_law_27 : decode cL_law 27 = .ok (.iconst 4, 1) := by decide +kernel
theorem dL_law_28 : decode cL_law 28 = .ok (.isub, 1) := by decide +kernel
theorem dL_law_29 : decode cL_law 29 = .ok (.if_icmp .gt 1682, 3) := by decide +kernel
theorem dL_law_32 : decode cL_law 32 = .ok (.aload_n 0, 1) := by decide +kernel
theorem dL_law_33 : decode cL_law 33 = .ok (.iload 4, 2) := by decide +kernel
theorem dL_law_35 : decode cL_law 35 = .ok (.iaload, 1) := by decide +kernel
theorem dL_law_36 : decode cL_law 36 = .ok (.bipush 31, 2) := by decide +kernel
theorem dL_law_38 : decode cL_law 38 = .ok (.iand, 1) := by decide +kernel
theorem dL_law_39 : decode cL_law 39 = .ok (.tableswitch 1666 0 30 #[137, 193, 273, 329, 397, 453, 497, 553, 633, 689, 745, 758, 771, 815, 871, 927, 971, 1039, 1107, 1187, 1255, 1335, 1391, 1447, 1503, 1559, 1572, 1585, 1598, 1611, 1652], 137) := by decide +kernel
theorem dL_law_176 : decode cL_law 176 = .ok (.aload_n 1, 1) := by decide +kernel
theorem dL_law_177 : decode cL_law 177 = .ok (.aload_n 0, 1) := by decide +kernel
theorem dL_law_178 : decode cL_law 178 = .ok (.iload 4, 2) := by decide +kernel
theorem dL_law_180 : decode cL_law 180 = .ok (.iconst 1, 1) := by decide +kernel
theorem dL_law_181 : decode cL_law 181 = .ok (.iadd, 1) := by decide +kernel
theorem dL_law_182 : decode cL_law 182 = .ok (.iaload, 1) := by decide +kernel
theorem dL_law_183 : decode cL_law 183 = .ok (.aload_n 3, 1) := by decide +kernel
theorem dL_law_184 : decode cL_law 184 = .ok (.invokestatic 92, 3) := by decide +kernel
theorem dL_law_187 : decode cL_law 187 = .ok (.istore 5, 2) := by decide +kernel
theorem dL_law_189 : decode cL_law 189 = .ok (.aload_n 2, 1) := by decide +kernel
theorem dL_law_190 : decode cL_law 190 = .ok (.aload_n 0, 1) := by decide +kernel
theorem dL_law_191 : decode cL_law 191 = .ok (.iload 4, 2) := by decide +kernel
theorem dL_law_193 : decode cL_law 193 = .ok (.iconst 1, 1) := by decide +kernel
theorem dL_law_194 : decode cL_law 194 = .ok (.iadd, 1) := by decide +kernel
theorem dL_law_195 : decode cL_law 195 = .ok (.iaload, 1) := by decide +kernel
theorem dL_law_196 : decode cL_law 196 = .ok (.invokevirtual 97, 3) := by decide +kernel
theorem dL_law_199 : decode cL_law 199 = .ok (.istore 6, 2) := by decide +kernel
theorem dL_law_201 : decode cL_law 201 = .ok (.aload_n 2, 1) := by decide +kernel
theorem dL_law_202 : decode cL_law 202 = .ok (.invokevirtual 98, 3) := by decide +kernel
theorem dL_law_205 : decode cL_law 205 = .ok (.iload 5, 2) := by decide +kernel
theorem dL_law_207 : decode cL_law 207 = .ok (.if_icmp .eq 5, 3) := by decide +kernel
theorem dL_law_210 : decode cL_law 210 = .ok (.iconst 0, 1) := by decide +kernel
theorem dL_law_211 : decode cL_law 211 = .ok (.ireturn, 1) := by decide +kernel
theorem dL_law_212 : decode cL_law 212 = .ok (.iload 5, 2) := by decide +kernel
theorem dL_law_214 : decode cL_law 214 = .ok (.ifCond .ne 15, 3) := by decide +kernel
theorem dL_law_217 : decode cL_law 217 = .ok (.aload_n 3, 1) := by decide +kernel
theorem dL_law_218 : decode cL_law 218 = .ok (.iconst 0, 1) := by decide +kernel
theorem dL_law_219 : decode cL_law 219 = .ok (.laload, 1) := by decide +kernel
theorem dL_law_220 : decode cL_law 220 = .ok (.iload 6, 2) := by decide +kernel
theorem dL_law_222 : decode cL_law 222 = .ok (.i2l, 1) := by decide +kernel
theorem dL_law_223 : decode cL_law 223 = .ok (.lcmp, 1) := by decide +kernel
theorem dL_law_224 : decode cL_law 224 = .ok (.ifCond .eq 5, 3) := by decide +kernel
theorem dL_law_227 : decode cL_law 227 = .ok (.iconst 0, 1) := by decide +kernel
theorem dL_law_228 : decode cL_law 228 = .ok (.ireturn, 1) := by decide +kernel
theorem dL_law_229 : decode cL_law 229 = .ok (.goto 1476, 3) := by decide +kernel
theorem dL_law_232 : decode cL_law 232 = .ok (.aload_n 1, 1) := by decide +kernel
theorem dL_law_233 : decode cL_law 233 = .ok (.aload_n 0, 1) := by decide +kernel
theorem dL_law_234 : decode cL_law 234 = .ok (.iload 4, 2) := by decide +kernel
theorem dL_law_236 : decode cL_law 236 = .ok (.iconst 1, 1) := by decide +kernel
theorem dL_law_237 : decode cL_law 237 = .ok (.iadd, 1) := by decide +kernel
theorem dL_law_238 : decode cL_law 238 = .ok (.iaload, 1) := by decide +kernel
theorem dL_law_239 : decode cL_law 239 = .ok (.aload_n 0, 1) := by decide +kernel
theorem dL_law_240 : decode cL_law 240 = .ok (.iload 4, 2) := by decide +kernel
theorem dL_law_242 : decode cL_law 242 = .ok (.iconst 2, 1) := by decide +kernel
theorem dL_law_243 : decode cL_law 243 = .ok (.iadd, 1) := by decide +kernel
theorem dL_law_244 : decode cL_law 244 = .ok (.iaload, 1) := by decide +kernel
theorem dL_law_245 : decode cL_law 245 = .ok (.aload_n 0, 1) := by decide +kernel
theorem dL_law_246 : decode cL_law 246 = .ok (.iload 4, 2) := by decide +kernel
theorem dL_law_248 : decode cL_law 248 = .ok (.iconst 3, 1) := by decide +kernel
theorem dL_law_249 : decode cL_law 249 = .ok (.iadd, 1) := by decide +kernel
theorem dL_law_250 : decode cL_law 250 = .ok (.iaload, 1) := by decide +kernel
theorem dL_law_251 : decode cL_law 251 = .ok (.aload_n 3, 1) := by decide +kernel
theorem dL_law_252 : decode cL_law 252 = .ok (.invokestatic 101, 3) := by decide +kernel
theorem dL_law_255 : decode cL_law 255 = .ok (.istore 5, 2) := by decide +kernel
theorem dL_law_257 : decode cL_law 257 = .ok (.aload_n 2, 1) := by decide +kernel
theorem dL_law_258 : decode cL_law 258 = .ok (.aload_n 0, 1) := by decide +kernel
theorem dL_law_259 : decode cL_law 259 = .ok (.iload 4, 2) := by decide +kernel
theorem dL_law_261 : decode cL_law 261 = .ok (.iconst 1, 1) := by decide +kernel
theorem dL_law_262 : decode cL_law 262 = .ok (.iadd, 1) := by decide +kernel
theorem dL_law_263 : decode cL_law 263 = .ok (.iaload, 1) := by decide +kernel
theorem dL_law_264 : decode cL_law 264 = .ok (.aload_n 0, 1) := by decide +kernel
theorem dL_law_265 : decode cL_law 265 = .ok (.iload 4, 2) := by decide +kernel
theorem dL_law_267 : decode cL_law 267 = .ok (.iconst 2, 1) := by decide +kernel
theorem dL_law_268 : decode cL_law 268 = .ok (.iadd, 1) := by decide +kernel
theorem dL_law_269 : decode cL_law 269 = .ok (.iaload, 1) := by decide +kernel
theorem dL_law_270 : decode cL_law 270 = .ok (.aload_n 0, 1) := by decide +kernel
theorem dL_law_271 : decode cL_law 271 = .ok (.iload 4, 2) := by decide +kernel
theorem dL_law_273 : decode cL_law 273 = .ok (.iconst 3, 1) := by decide +kernel
theorem dL_law_274 : decode cL_law 274 = .ok (.iadd, 1) := by decide +kernel
theorem dL_law_275 : decode cL_law 275 = .ok (.iaload, 1) := by decide +kernel
theorem dL_law_276 : decode cL_law 276 = .ok (.invokevirtual 104, 3) := by decide +kernel
theorem dL_law_279 : decode cL_law 279 = .ok (.istore 6, 2) := by decide +kernel
theorem dL_law_281 : decode cL_law 281 = .ok (.aload_n 2, 1) := by decide +kernel
theorem dL_law_282 : decode cL_law 282 = .ok (.invokevirtual 98, 3) := by decide +kernel
theorem dL_law_285 : decode cL_law 285 = .ok (.iload 5, 2) := by decide +kernel
theorem dL_law_287 : decode cL_law 287 = .ok (.if_icmp .eq 5, 3) := by decide +kernel
theorem dL_law_290 : decode cL_law 290 = .ok (.iconst 0, 1) := by decide +kernel
theorem dL_law_291 : decode cL_law 291 = .ok (.ireturn, 1) := by decide +kernel
theorem dL_law_292 : decode cL_law 292 = .ok (.iload 5, 2) := by decide +kernel
theorem dL_law_294 : decode cL_law 294 = .ok (.ifCond .ne 15, 3) := by decide +kernel
theorem dL_law_297 : decode cL_law 297 = .ok (.aload_n 3, 1) := by decide +kernel
theorem dL_law_298 : decode cL_law 298 = .ok (.iconst 0, 1) := by decide +kernel
theorem dL_law_299 : decode cL_law 299 = .ok (.laload, 1) := by decide +kernel
theorem dL_law_300 : decode cL_law 300 = .ok (.iload 6, 2) := by decide +kernel
theorem dL_law_302 : decode cL_law 302 = .ok (.i2l, 1) := by decide +kernel
theorem dL_law_303 : decode cL_law 303 = .ok (.lcmp, 1) := by decide +kernel
theorem dL_law_304 : decode cL_law 304 = .ok (.ifCond .eq 5, 3) := by decide +kernel
theorem dL_law_307 : decode cL_law 307 = .ok (.iconst 0, 1) := by decide +kernel
theorem dL_law_308 : decode cL_law 308 = .ok (.ireturn, 1) := by decide +kernel
theorem dL_law_309 : decode cL_law 309 = .ok (.goto 1396, 3) := by decide +kernel
theorem dL_law_312 : decode cL_law 312 = .ok (.aload_n 1, 1) := by decide +kernel
theorem dL_law_313 : decode cL_law 313 = .ok (.aload_n 0, 1) := by decide +kernel
theorem dL_law_314 : decode cL_law 314 = .ok (.iload 4, 2) := by decide +kernel
theorem dL_law_316 : decode cL_law 316 = .ok (.iconst 1, 1) := by decide +kernel
theorem dL_law_317 : decode cL_law 317 = .ok (.iadd, 1) := by decide +kernel
theorem dL_law_318 : decode cL_law 318 = .ok (.iaload, 1) := by decide +kernel
theorem dL_law_319 : decode cL_law 319 = .ok (.aload_n 3, 1) := by decide +kernel
theorem dL_law_320 : decode cL_law 320 = .ok (.invokestatic 105, 3) := by decide +kernel
theorem dL_law_323 : decode cL_law 323 = .ok (.istore 5, 2) := by decide +kernel
theorem dL_law_325 : decode cL_law 325 = .ok (.aload_n 2, 1) := by decide +kernel
theorem dL_law_326 : decode cL_law 326 = .ok (.aload_n 0, 1) := by decide +kernel
theorem dL_law_327 : decode cL_law 327 = .ok (.iload 4, 2) := by decide +kernel
theorem dL_law_329 : decode cL_law 329 = .ok (.iconst 1, 1) := by decide +kernel
theorem dL_law_330 : decode cL_law 330 = .ok (.iadd, 1) := by decide +kernel
theorem dL_law_331 : decode cL_law 331 = .ok (.iaload, 1) := by decide +kernel
theorem dL_law_332 : decode cL_law 332 = .ok (.invokevirtual 107, 3) := by decide +kernel
theorem dL_law_335 : decode cL_law 335 = .ok (.istore 6, 2) := by decide +kernel
theorem dL_law_337 : decode cL_law 337 = .ok (.aload_n 2, 1) := by decide +kernel
theorem dL_law_338 : decode cL_law 338 = .ok (.invokevirtual 98, 3) := by decide +kernel
theorem dL_law_341 : decode cL_law 341 = .ok (.iload 5, 2) := by decide +kernel
theorem dL_law_343 : decode cL_law 343 = .ok (.if_icmp .eq 5, 3) := by decide +kernel
theorem dL_law_346 : decode cL_law 346 = .ok (.iconst 0, 1) := by decide +kernel
theorem dL_law_347 : decode cL_law 347 = .ok (.ireturn, 1) := by decide +kernel
theorem dL_law_348 : decode cL_law 348 = .ok (.iload 5, 2) := by decide +kernel
theorem dL_law_350 : decode cL_law 350 = .ok (.ifCond .ne 15, 3) := by decide +kernel
theorem dL_law_353 : decode cL_law 353 = .ok (.aload_n 3, 1) := by decide +kernel
theorem dL_law_354 : decode cL_law 354 = .ok (.iconst 0, 1) := by decide +kernel
theorem dL_law_355 : decode cL_law 355 = .ok (.laload, 1) := by decide +kernel
theorem dL_law_356 : decode cL_law 356 = .ok (.iload 6, 2) := by decide +kernel
theorem dL_law_358 : decode cL_law 358 = .ok (.i2l, 1) := by decide +kernel
theorem dL_law_359 : decode cL_law 359 = .ok (.lcmp, 1) := by decide +kernel
theorem dL_law_360 : decode cL_law 360 = .ok (.ifCond .eq 5, 3) := by decide +kernel
theorem dL_law_363 : decode cL_law 363 = .ok (.iconst 0, 1) := by decide +kernel
theorem dL_law_364 : decode cL_law 364 = .ok (.ireturn, 1) := by decide +kernel
theorem dL_law_365 : decode cL_law 365 = .ok (.goto 1340, 3) := by decide +kernel
theorem dL_law_368 : decode cL_law 368 = .ok (.aload_n 1, 1) := by decide +kernel
theorem dL_law_369 : decode cL_law 369 = .ok (.aload_n 0, 1) := by decide +kernel
theorem dL_law_370 : decode cL_law 370 = .ok (.iload 4, 2) := by decide +kernel
theorem dL_law_372 : decode cL_law 372 = .ok (.iconst 1, 1) := by decide +kernel
theorem dL_law_373 : decode cL_law 373 = .ok (.iadd, 1) := by decide +kernel
theorem dL_law_374 : decode cL_law 374 = .ok (.iaload, 1) := by decide +kernel
theorem dL_law_375 : decode cL_law 375 = .ok (.aload_n 0, 1) := by decide +kernel
theorem dL_law_376 : decode cL_law 376 = .ok (.iload 4, 2) := by decide +kernel
theorem dL_law_378 : decode cL_law 378 = .ok (.iconst 2, 1) := by decide +kernel
theorem dL_law_379 : decode cL_law 379 = .ok (.iadd, 1) := by decide +kernel
theorem dL_law_380 : decode cL_law 380 = .ok (.iaload, 1) := by decide +kernel
theorem dL_law_381 : decode cL_law 381 = .ok (.aload_n 3, 1) := by decide +kernel
theorem dL_law_382 : decode cL_law 382 = .ok (.invokestatic 108, 3) := by decide +kernel
theorem dL_law_385 : decode cL_law 385 = .ok (.istore 5, 2) := by decide +kernel
theorem dL_law_387 : decode cL_law 387 = .ok (.aload_n 2, 1) := by decide +kernel
theorem dL_law_388 : decode cL_law 388 = .ok (.aload_n 0, 1) := by decide +kernel
theorem dL_law_389 : decode cL_law 389 = .ok (.iload 4, 2) := by decide +kernel
theorem dL_law_391 : decode cL_law 391 = .ok (.iconst 1, 1) := by decide +kernel
theorem dL_law_392 : decode cL_law 392 = .ok (.iadd, 1) := by decide +kernel
theorem dL_law_393 : decode cL_law 393 = .ok (.iaload, 1) := by decide +kernel
theorem dL_law_394 : decode cL_law 394 = .ok (.aload_n 0, 1) := by decide +kernel
theorem dL_law_395 : decode cL_law 395 = .ok (.iload 4, 2) := by decide +kernel
theorem dL_law_397 : decode cL_law 397 = .ok (.iconst 2, 1) := by decide +kernel
theorem dL_law_398 : decode cL_law 398 = .ok (.iadd, 1) := by decide +kernel
theorem dL_law_399 : decode cL_law 399 = .ok (.iaload, 1) := by decide +kernel
theorem dL_law_400 : decode cL_law 400 = .ok (.invokevirtual 111, 3) := by decide +kernel
theorem dL_law_403 : decode cL_law 403 = .ok (.istore 6, 2) := by decide +kernel
theorem dL_law_405 : decode cL_law 405 = .ok (.aload_n 2, 1) := by decide +kernel
theorem dL_law_406 : decode cL_law 406 = .ok (.invokevirtual 98, 3) := by decide +kernel
theorem dL_law_409 : decode cL_law 409 = .ok (.iload 5, 2) := by decide +kernel
theorem dL_law_411 : decode cL_law 411 = .ok (.if_icmp .eq 5, 3) := by decide +kernel
theorem dL_law_414 : decode cL_law 414 = .ok (.iconst 0, 1) := by decide +kernel
theorem dL_law_415 : decode cL_law 415 = .ok (.ireturn, 1) := by decide +kernel
theorem dL_law_416 : decode cL_law 416 = .ok (.iload 5, 2) := by decide +kernel
theorem dL_law_418 : decode cL_law 418 = .ok (.ifCond .ne 15, 3) := by decide +kernel
theorem dL_law_421 : decode cL_law 421 = .ok (.aload_n 3, 1) := by decide +kernel
theorem dL_law_422 : decode cL_law 422 = .ok (.iconst 0, 1) := by decide +kernel
theorem dL_law_423 : decode cL_law 423 = .ok (.laload, 1) := by decide +kernel
theorem dL_law_424 : decode cL_law 424 = .ok (.iload 6, 2) := by decide +kernel
theorem dL_law_426 : decode cL_law 426 = .ok (.i2l, 1) := by decide +kernel
theorem dL_law_427 : decode cL_law 427 = .ok (.lcmp, 1) := by decide +kernel
theorem dL_law_428 : decode cL_law 428 = .ok (.ifCond .eq 5, 3) := by decide +kernel
theorem dL_law_431 : decode cL_law 431 = .ok (.iconst 0, 1) := by decide +kernel
theorem dL_law_432 : decode cL_law 432 = .ok (.ireturn, 1) := by decide +kernel
theorem dL_law_433 : decode cL_law 433 = .ok (.goto 1272, 3) := by decide +kernel
theorem dL_law_436 : decode cL_law 436 = .ok (.aload_n 1, 1) := by decide +kernel
theorem dL_law_437 : decode cL_law 437 = .ok (.aload_n 0, 1) := by decide +kernel
theorem dL_law_438 : decode cL_law 438 = .ok (.iload 4, 2) := by decide +kernel
theorem dL_law_440 : decode cL_law 440 = .ok (.iconst 1, 1) := by decide +kernel
theorem dL_law_441 : decode cL_law 441 = .ok (.iadd, 1) := by decide +kernel
theorem dL_law_442 : decode cL_law 442 = .ok (.iaload, 1) := by decide +kernel
theorem dL_law_443 : decode cL_law 443 = .ok (.aload_n 3, 1) := by decide +kernel
theorem dL_law_444 : decode cL_law 444 = .ok (.invokestatic 112, 3) := by decide +kernel
theorem dL_law_447 : decode cL_law 447 = .ok (.istore 5, 2) := by decide +kernel
theorem dL_law_449 : decode cL_law 449 = .ok (.aload_n 2, 1) := by decide +kernel
theorem dL_law_450 : decode cL_law 450 = .ok (.aload_n 0, 1) := by decide +kernel
theorem dL_law_451 : decode cL_law 451 = .ok (.iload 4, 2) := by decide +kernel
theorem dL_law_453 : decode cL_law 453 = .ok (.iconst 1, 1) := by decide +kernel
theorem dL_law_454 : decode cL_law 454 = .ok (.iadd, 1) := by decide +kernel
theorem dL_law_455 : decode cL_law 455 = .ok (.iaload, 1) := by decide +kernel
theorem dL_law_456 : decode cL_law 456 = .ok (.invokevirtual 114, 3) := by decide +kernel
theorem dL_law_459 : decode cL_law 459 = .ok (.istore 6, 2) := by decide +kernel
theorem dL_law_461 : decode cL_law 461 = .ok (.aload_n 2, 1) := by decide +kernel
theorem dL_law_462 : decode cL_law 462 = .ok (.invokevirtual 98, 3) := by decide +kernel
theorem dL_law_465 : decode cL_law 465 = .ok (.iload 5, 2) := by decide +kernel
theorem dL_law_467 : decode cL_law 467 = .ok (.if_icmp .eq 5, 3) := by decide +kernel
theorem dL_law_470 : decode cL_law 470 = .ok (.iconst 0, 1) := by decide +kernel
theorem dL_law_471 : decode cL_law 471 = .ok (.ireturn, 1) := by decide +kernel
theorem dL_law_472 : decode cL_law 472 = .ok (.iload 5, 2) := by decide +kernel
theorem dL_law_474 : decode cL_law 474 = .ok (.ifCond .ne 15, 3) := by decide +kernel
theorem dL_law_477 : decode cL_law 477 = .ok (.aload_n 3, 1) := by decide +kernel
theorem dL_law_478 : decode cL_law 478 = .ok (.iconst 0, 1) := by decide +kernel
theorem dL_law_479 : decode cL_law 479 = .ok (.laload, 1) := by decide +kernel
theorem dL_law_480 : decode cL_law 480 = .ok (.iload 6, 2) := by decide +kernel
theorem dL_law_482 : decode cL_law 482 = .ok (.i2l, 1) := by decide +kernel
theorem dL_law_483 : decode cL_law 483 = .ok (.lcmp, 1) := by decide +kernel
theorem dL_law_484 : decode cL_law 484 = .ok (.ifCond .eq 5, 3) := by decide +kernel
theorem dL_law_487 : decode cL_law 487 = .ok (.iconst 0, 1) := by decide +kernel
theorem dL_law_488 : decode cL_law 488 = .ok (.ireturn, 1) := by decide +kernel
theorem dL_law_489 : decode cL_law 489 = .ok (.goto 1216, 3) := by decide +kernel
theorem dL_law_492 : decode cL_law 492 = .ok (.aload_n 1, 1) := by decide +kernel
theorem dL_law_493 : decode cL_law 493 = .ok (.aload_n 3, 1) := by decide +kernel
theorem dL_law_494 : decode cL_law 494 = .ok (.invokestatic 115, 3) := by decide +kernel
theorem dL_law_497 : decode cL_law 497 = .ok (.istore 5, 2) := by decide +kernel
theorem dL_law_499 : decode cL_law 499 = .ok (.aload_n 2, 1) := by decide +kernel
theorem dL_law_500 : decode cL_law 500 = .ok (.invokevirtual 118, 3) := by decide +kernel
theorem dL_law_503 : decode cL_law 503 = .ok (.istore 6, 2) := by decide +kernel
theorem dL_law_505 : decode cL_law 505 = .ok (.aload_n 2, 1) := by decide +kernel
theorem dL_law_506 : decode cL_law 506 = .ok (.invokevirtual 98, 3) := by decide +kernel
theorem dL_law_509 : decode cL_law 509 = .ok (.iload 5, 2) := by decide +kernel
theorem dL_law_511 : decode cL_law 511 = .ok (.if_icmp .eq 5, 3) := by decide +kernel
theorem dL_law_514 : decode cL_law 514 = .ok (.iconst 0, 1) := by decide +kernel
theorem dL_law_515 : decode cL_law 515 = .ok (.ireturn, 1) := by decide +kernel
theorem dL_law_516 : decode cL_law 516 = .ok (.iload 5, 2) := by decide +kernel
theorem dL_law_518 : decode cL_law 518 = .ok (.ifCond .ne 15, 3) := by decide +kernel
theorem dL_law_521 : decode cL_law 521 = .ok (.aload_n 3, 1) := by decide +kernel
theorem dL_law_522 : decode cL_law 522 = .ok (.iconst 0, 1) := by decide +kernel
theorem dL_law_523 : decode cL_law 523 = .ok (.laload, 1) := by decide +kernel
theorem dL_law_524 : decode cL_law 524 = .ok (.iload 6, 2) := by decide +kernel
theorem dL_law_526 : decode cL_law 526 = .ok (.i2l, 1) := by decide +kernel
theorem dL_law_527 : decode cL_law 527 = .ok (.lcmp, 1) := by decide +kernel
theorem dL_law_528 : decode cL_law 528 = .ok (.ifCond .eq 5, 3) := by decide +kernel
theorem dL_law_531 : decode cL_law 531 = .ok (.iconst 0, 1) := by decide +kernel
theorem dL_law_532 : decode cL_law 532 = .ok (.ireturn, 1) := by decide +kernel
theorem dL_law_533 : decode cL_law 533 = .ok (.goto 1172, 3) := by decide +kernel
theorem dL_law_536 : decode cL_law 536 = .ok (.aload_n 1, 1) := by decide +kernel
theorem dL_law_537 : decode cL_law 537 = .ok (.aload_n 0, 1) := by decide +kernel
theorem dL_law_538 : decode cL_law 538 = .ok (.iload 4, 2) := by decide +kernel
theorem dL_law_540 : decode cL_law 540 = .ok (.iconst 1, 1) := by decide +kernel
theorem dL_law_541 : decode cL_law 541 = .ok (.iadd, 1) := by decide +kernel
theorem dL_law_542 : decode cL_law 542 = .ok (.iaload, 1) := by decide +kernel
theorem dL_law_543 : decode cL_law 543 = .ok (.aload_n 3, 1) := by decide +kernel
theorem dL_law_544 : decode cL_law 544 = .ok (.invokestatic 119, 3) := by decide +kernel
theorem dL_law_547 : decode cL_law 547 = .ok (.istore 5, 2) := by decide +kernel
theorem dL_law_549 : decode cL_law 549 = .ok (.aload_n 2, 1) := by decide +kernel
theorem dL_law_550 : decode cL_law 550 = .ok (.aload_n 0, 1) := by decide +kernel
theorem dL_law_551 : decode cL_law 551 = .ok (.iload 4, 2) := by decide +kernel
theorem dL_law_553 : decode cL_law 553 = .ok (.iconst 1, 1) := by decide +kernel
theorem dL_law_554 : decode cL_law 554 = .ok (.iadd, 1) := by decide +kernel
theorem dL_law_555 : decode cL_law 555 = .ok (.iaload, 1) := by decide +kernel
theorem dL_law_556 : decode cL_law 556 = .ok (.invokevirtual 121, 3) := by decide +kernel
theorem dL_law_559 : decode cL_law 559 = .ok (.istore 6, 2) := by decide +kernel
theorem dL_law_561 : decode cL_law 561 = .ok (.aload_n 2, 1) := by decide +kernel
theorem dL_law_562 : decode cL_law 562 = .ok (.invokevirtual 98, 3) := by decide +kernel
theorem dL_law_565 : decode cL_law 565 = .ok (.iload 5, 2) := by decide +kernel
theorem dL_law_567 : decode cL_law 567 = .ok (.if_icmp .eq 5, 3) := by decide +kernel
theorem dL_law_570 : decode cL_law 570 = .ok (.iconst 0, 1) := by decide +kernel
theorem dL_law_571 : decode cL_law 571 = .ok (.ireturn, 1) := by decide +kernel
theorem dL_law_572 : decode cL_law 572 = .ok (.iload 5, 2) := by decide +kernel
theorem dL_law_574 : decode cL_law 574 = .ok (.ifCond .ne 15, 3) := by decide +kernel
theorem dL_law_577 : decode cL_law 577 = .ok (.aload_n 3, 1) := by decide +kernel
theorem dL_law_578 : decode cL_law 578 = .ok (.iconst 0, 1) := by decide +kernel
theorem dL_law_579 : decode cL_law 579 = .ok (.laload, 1) := by decide +kernel
theorem dL_law_580 : decode cL_law 580 = .ok (.iload 6, 2) := by decide +kernel
theorem dL_law_582 : decode cL_law 582 = .ok (.i2l, 1) := by decide +kernel
theorem dL_law_583 : decode cL_law 583 = .ok (.lcmp, 1) := by decide +kernel
theorem dL_law_584 : decode cL_law 584 = .ok (.ifCond .eq 5, 3) := by decide +kernel
theorem dL_law_587 : decode cL_law 587 = .ok (.iconst 0, 1) := by decide +kernel
theorem dL_law_588 : decode cL_law 588 = .ok (.ireturn, 1) := by decide +kernel
theorem dL_law_589 : decode cL_law 589 = .ok (.goto 1116, 3) := by decide +kernel
theorem dL_law_592 : decode cL_law 592 = .ok (.aload_n 1, 1) := by decide +kernel
theorem dL_law_593 : decode cL_law 593 = .ok (.aload_n 0, 1) := by decide +kernel
theorem dL_law_594 : decode cL_law 594 = .ok (.iload 4, 2) := by decide +kernel
theorem dL_law_596 : decode cL_law 596 = .ok (.iconst 1, 1) := by decide +kernel
theorem dL_law_597 : decode cL_law 597 = .ok (.iadd, 1) := by decide +kernel
theorem dL_law_598 : decode cL_law 598 = .ok (.iaload, 1) := by decide +kernel
theorem dL_law_599 : decode cL_law 599 = .ok (.aload_n 0, 1) := by decide +kernel
theorem dL_law_600 : decode cL_law 600 = .ok (.iload 4, 2) := by decide +kernel
theorem dL_law_602 : decode cL_law 602 = .ok (.iconst 2, 1) := by decide +kernel
theorem dL_law_603 : decode cL_law 603 = .ok (.iadd, 1) := by decide +kernel
theorem dL_law_604 : decode cL_law 604 = .ok (.iaload, 1) := by decide +kernel
theorem dL_law_605 : decode cL_law 605 = .ok (.aload_n 0, 1) := by decide +kernel
theorem dL_law_606 : decode cL_law 606 = .ok (.iload 4, 2) := by decide +kernel
theorem dL_law_608 : decode cL_law 608 = .ok (.iconst 3, 1) := by decide +kernel
theorem dL_law_609 : decode cL_law 609 = .ok (.iadd, 1) := by decide +kernel
theorem dL_law_610 : decode cL_law 610 = .ok (.iaload, 1) := by decide +kernel
theorem dL_law_611 : decode cL_law 611 = .ok (.aload_n 3, 1) := by decide +kernel
theorem dL_law_612 : decode cL_law 612 = .ok (.invokestatic 122, 3) := by decide +kernel
theorem dL_law_615 : decode cL_law 615 = .ok (.istore 5, 2) := by decide +kernel
theorem dL_law_617 : decode cL_law 617 = .ok (.aload_n 2, 1) := by decide +kernel
theorem dL_law_618 : decode cL_law 618 = .ok (.aload_n 0, 1) := by decide +kernel
theorem dL_law_619 : decode cL_law 619 = .ok (.iload 4, 2) := by decide +kernel
theorem dL_law_621 : decode cL_law 621 = .ok (.iconst 1, 1) := by decide +kernel
theorem dL_law_622 : decode cL_law 622 = .ok (.iadd, 1) := by decide +kernel
theorem dL_law_623 : decode cL_law 623 = .ok (.iaload, 1) := by decide +kernel
theorem dL_law_624 : decode cL_law 624 = .ok (.aload_n 0, 1) := by decide +kernel
theorem dL_law_625 : decode cL_law 625 = .ok (.iload 4, 2) := by decide +kernel
theorem dL_law_627 : decode cL_law 627 = .ok (.iconst 2, 1) := by decide +kernel
theorem dL_law_628 : decode cL_law 628 = .ok (.iadd, 1) := by decide +kernel
theorem dL_law_629 : decode cL_law 629 = .ok (.iaload, 1) := by decide +kernel
theorem dL_law_630 : decode cL_law 630 = .ok (.aload_n 0, 1) := by decide +kernel
theorem dL_law_631 : decode cL_law 631 = .ok (.iload 4, 2) := by decide +kernel
theorem dL_law_633 : decode cL_law 633 = .ok (.iconst 3, 1) := by decide +kernel
theorem dL_law_634 : decode cL_law 634 = .ok (.iadd, 1) := by decide +kernel
theorem dL_law_635 : decode cL_law 635 = .ok (.iaload, 1) := by decide +kernel
theorem dL_law_636 : decode cL_law 636 = .ok (.invokevirtual 124, 3) := by decide +kernel
theorem dL_law_639 : decode cL_law 639 = .ok (.istore 6, 2) := by decide +kernel
theorem dL_law_641 : decode cL_law 641 = .ok (.aload_n 2, 1) := by decide +kernel
theorem dL_law_642 : decode cL_law 642 = .ok (.invokevirtual 98, 3) := by decide +kernel
theorem dL_law_645 : decode cL_law 645 = .ok (.iload 5, 2) := by decide +kernel
theorem dL_law_647 : decode cL_law 647 = .ok (.if_icmp .eq 5, 3) := by decide +kernel
theorem dL_law_650 : decode cL_law 650 = .ok (.iconst 0, 1) := by decide +kernel
theorem dL_law_651 : decode cL_law 651 = .ok (.ireturn, 1) := by decide +kernel
theorem dL_law_652 : decode cL_law 652 = .ok (.iload 5, 2) := by decide +kernel
theorem dL_law_654 : decode cL_law 654 = .ok (.ifCond .ne 15, 3) := by decide +kernel
theorem dL_law_657 : decode cL_law 657 = .ok (.aload_n 3, 1) := by decide +kernel
theorem dL_law_658 : decode cL_law 658 = .ok (.iconst 0, 1) := by decide +kernel
theorem dL_law_659 : decode cL_law 659 = .ok (.laload, 1) := by decide +kernel
theorem dL_law_660 : decode cL_law 660 = .ok (.iload 6, 2) := by decide +kernel
theorem dL_law_662 : decode cL_law 662 = .ok (.i2l, 1) := by decide +kernel
theorem dL_law_663 : decode cL_law 663 = .ok (.lcmp, 1) := by decide +kernel
theorem dL_law_664 : decode cL_law 664 = .ok (.ifCond .eq 5, 3) := by decide +kernel
theorem dL_law_667 : decode cL_law 667 = .ok (.iconst 0, 1) := by decide +kernel
theorem dL_law_668 : decode cL_law 668 = .ok (.ireturn, 1) := by decide +kernel
theorem dL_law_669 : decode cL_law 669 = .ok (.goto 1036, 3) := by decide +kernel
theorem dL_law_672 : decode cL_law 672 = .ok (.aload_n 1, 1) := by decide +kernel
theorem dL_law_673 : decode cL_law 673 = .ok (.aload_n 0, 1) := by decide +kernel
theorem dL_law_674 : decode cL_law 674 = .ok (.iload 4, 2) := by decide +kernel
theorem dL_law_676 : decode cL_law 676 = .ok (.iconst 1, 1) := by decide +kernel
theorem dL_law_677 : decode cL_law 677 = .ok (.iadd, 1) := by decide +kernel
theorem dL_law_678 : decode cL_law 678 = .ok (.iaload, 1) := by decide +kernel
theorem dL_law_679 : decode cL_law 679 = .ok (.aload_n 3, 1) := by decide +kernel
theorem dL_law_680 : decode cL_law 680 = .ok (.invokestatic 125, 3) := by decide +kernel
theorem dL_law_683 : decode cL_law 683 = .ok (.istore 5, 2) := by decide +kernel
theorem dL_law_685 : decode cL_law 685 = .ok (.aload_n 2, 1) := by decide +kernel
theorem dL_law_686 : decode cL_law 686 = .ok (.aload_n 0, 1) := by decide +kernel
theorem dL_law_687 : decode cL_law 687 = .ok (.iload 4, 2) := by decide +kernel
theorem dL_law_689 : decode cL_law 689 = .ok (.iconst 1, 1) := by decide +kernel
theorem dL_law_690 : decode cL_law 690 = .ok (.iadd, 1) := by decide +kernel
theorem dL_law_691 : decode cL_law 691 = .ok (.iaload, 1) := by decide +kernel
theorem dL_law_692 : decode cL_law 692 = .ok (.invokevirtual 127, 3) := by decide +kernel
theorem dL_law_695 : decode cL_law 695 = .ok (.istore 6, 2) := by decide +kernel
theorem dL_law_697 : decode cL_law 697 = .ok (.aload_n 2, 1) := by decide +kernel
theorem dL_law_698 : decode cL_law 698 = .ok (.invokevirtual 98, 3) := by decide +kernel
theorem dL_law_701 : decode cL_law 701 = .ok (.iload 5, 2) := by decide +kernel
theorem dL_law_703 : decode cL_law 703 = .ok (.if_icmp .eq 5, 3) := by decide +kernel
theorem dL_law_706 : decode cL_law 706 = .ok (.iconst 0, 1) := by decide +kernel
theorem dL_law_707 : decode cL_law 707 = .ok (.ireturn, 1) := by decide +kernel
theorem dL_law_708 : decode cL_law 708 = .ok (.iload 5, 2) := by decide +kernel
theorem dL_law_710 : decode cL_law 710 = .ok (.ifCond .ne 15, 3) := by decide +kernel
theorem dL_law_713 : decode cL_law 713 = .ok (.aload_n 3, 1) := by decide +kernel
theorem dL_law_714 : decode cL_law 714 = .ok (.iconst 0, 1) := by decide +kernel
theorem dL_law_715 : decode cL_law 715 = .ok (.laload, 1) := by decide +kernel
theorem dL_law_716 : decode cL_law 716 = .ok (.iload 6, 2) := by decide +kernel
theorem dL_law_718 : decode cL_law 718 = .ok (.i2l, 1) := by decide +kernel
theorem dL_law_719 : decode cL_law 719 = .ok (.lcmp, 1) := by decide +kernel
theorem dL_law_720 : decode cL_law 720 = .ok (.ifCond .eq 5, 3) := by decide +kernel
theorem dL_law_723 : decode cL_law 723 = .ok (.iconst 0, 1) := by decide +kernel
theorem dL_law_724 : decode cL_law 724 = .ok (.ireturn, 1) := by decide +kernel
theorem dL_law_725 : decode cL_law 725 = .ok (.goto 980, 3) := by decide +kernel
theorem dL_law_728 : decode cL_law 728 = .ok (.aload_n 1, 1) := by decide +kernel
theorem dL_law_729 : decode cL_law 729 = .ok (.aload_n 0, 1) := by decide +kernel
theorem dL_law_730 : decode cL_law 730 = .ok (.iload 4, 2) := by decide +kernel
theorem dL_law_732 : decode cL_law 732 = .ok (.iconst 1, 1) := by decide +kernel
theorem dL_law_733 : decode cL_law 733 = .ok (.iadd, 1) := by decide +kernel
theorem dL_law_734 : decode cL_law 734 = .ok (.iaload, 1) := by decide +kernel
theorem dL_law_735 : decode cL_law 735 = .ok (.aload_n 3, 1) := by decide +kernel
theorem dL_law_736 : decode cL_law 736 = .ok (.invokestatic 128, 3) := by decide +kernel
theorem dL_law_739 : decode cL_law 739 = .ok (.istore 5, 2) := by decide +kernel
theorem dL_law_741 : decode cL_law 741 = .ok (.aload_n 2, 1) := by decide +kernel
theorem dL_law_742 : decode cL_law 742 = .ok (.aload_n 0, 1) := by decide +kernel
theorem dL_law_743 : decode cL_law 743 = .ok (.iload 4, 2) := by decide +kernel
theorem dL_law_745 : decode cL_law 745 = .ok (.iconst 1, 1) := by decide +kernel
theorem dL_law_746 : decode cL_law 746 = .ok (.iadd, 1) := by decide +kernel
theorem dL_law_747 : decode cL_law 747 = .ok (.iaload, 1) := by decide +kernel
theorem dL_law_748 : decode cL_law 748 = .ok (.invokevirtual 130, 3) := by decide +kernel
theorem dL_law_751 : decode cL_law 751 = .ok (.istore 6, 2) := by decide +kernel
theorem dL_law_753 : decode cL_law 753 = .ok (.aload_n 2, 1) := by decide +kernel
theorem dL_law_754 : decode cL_law 754 = .ok (.invokevirtual 98, 3) := by decide +kernel
theorem dL_law_757 : decode cL_law 757 = .ok (.iload 5, 2) := by decide +kernel
theorem dL_law_759 : decode cL_law 759 = .ok (.if_icmp .eq 5, 3) := by decide +kernel
theorem dL_law_762 : decode cL_law 762 = .ok (.iconst 0, 1) := by decide +kernel
theorem dL_law_763 : decode cL_law 763 = .ok (.ireturn, 1) := by decide +kernel
theorem dL_law_764 : decode cL_law 764 = .ok (.iload 5, 2) := by decide +kernel
theorem dL_law_766 : decode cL_law 766 = .ok (.ifCond .ne 15, 3) := by decide +kernel
theorem dL_law_769 : decode cL_law 769 = .ok (.aload_n 3, 1) := by decide +kernel
theorem dL_law_770 : decode cL_law 770 = .ok (.iconst 0, 1) := by decide +kernel
theorem dL_law_771 : decode cL_law 771 = .ok (.laload, 1) := by decide +kernel
theorem dL_law_772 : decode cL_law 772 = .ok (.iload 6, 2) := by decide +kernel
theorem dL_law_774 : decode cL_law 774 = .ok (.i2l, 1) := by decide +kernel
theorem dL_law_775 : decode cL_law 775 = .ok (.lcmp, 1) := by decide +kernel
theorem dL_law_776 : decode cL_law 776 = .ok (.ifCond .eq 5, 3) := by decide +kernel
theorem dL_law_779 : decode cL_law 779 = .ok (.iconst 0, 1) := by decide +kernel
theorem dL_law_780 : decode cL_law 780 = .ok (.ireturn, 1) := by decide +kernel
theorem dL_law_781 : decode cL_law 781 = .ok (.goto 924, 3) := by decide +kernel
theorem dL_law_784 : decode cL_law 784 = .ok (.aload_n 1, 1) := by decide +kernel
theorem dL_law_785 : decode cL_law 785 = .ok (.invokevirtual 131, 3) := by decide +kernel
theorem dL_law_788 : decode cL_law 788 = .ok (.aload_n 2, 1) := by decide +kernel
theorem dL_law_789 : decode cL_law 789 = .ok (.invokevirtual 134, 3) := by decide +kernel
theorem dL_law_792 : decode cL_law 792 = .ok (.if_icmp .eq 913, 3) := by decide +kernel
theorem dL_law_795 : decode cL_law 795 = .ok (.iconst 0, 1) := by decide +kernel
theorem dL_law_796 : decode cL_law 796 = .ok (.ireturn, 1) := by decide +kernel
theorem dL_law_797 : decode cL_law 797 = .ok (.aload_n 1, 1) := by decide +kernel
theorem dL_law_798 : decode cL_law 798 = .ok (.invokevirtual 135, 3) := by decide +kernel
theorem dL_law_801 : decode cL_law 801 = .ok (.aload_n 2, 1) := by decide +kernel
theorem dL_law_802 : decode cL_law 802 = .ok (.invokevirtual 138, 3) := by decide +kernel
theorem dL_law_805 : decode cL_law 805 = .ok (.if_icmp .eq 900, 3) := by decide +kernel
theorem dL_law_808 : decode cL_law 808 = .ok (.iconst 0, 1) := by decide +kernel
theorem dL_law_809 : decode cL_law 809 = .ok (.ireturn, 1) := by decide +kernel
theorem dL_law_810 : decode cL_law 810 = .ok (.aload_n 1, 1) := by decide +kernel
theorem dL_law_811 : decode cL_law 811 = .ok (.aload_n 3, 1) := by decide +kernel
theorem dL_law_812 : decode cL_law 812 = .ok (.invokestatic 139, 3) := by decide +kernel
theorem dL_law_815 : decode cL_law 815 = .ok (.istore 5, 2) := by decide +kernel
theorem dL_law_817 : decode cL_law 817 = .ok (.aload_n 2, 1) := by decide +kernel
theorem dL_law_818 : decode cL_law 818 = .ok (.invokevirtual 141, 3) := by decide +kernel
theorem dL_law_821 : decode cL_law 821 = .ok (.istore 6, 2) := by decide +kernel
theorem dL_law_823 : decode cL_law 823 = .ok (.aload_n 2, 1) := by decide +kernel
theorem dL_law_824 : decode cL_law 824 = .ok (.invokevirtual 98, 3) := by decide +kernel
theorem dL_law_827 : decode cL_law 827 = .ok (.iload 5, 2) := by decide +kernel
theorem dL_law_829 : decode cL_law 829 = .ok (.if_icmp .eq 5, 3) := by decide +kernel
theorem dL_law_832 : decode cL_law 832 = .ok (.iconst 0, 1) := by decide +kernel
theorem dL_law_833 : decode cL_law 833 = .ok (.ireturn, 1) := by decide +kernel
theorem dL_law_834 : decode cL_law 834 = .ok (.iload 5, 2) := by decide +kernel
theorem dL_law_836 : decode cL_law 836 = .ok (.ifCond .ne 15, 3) := by decide +kernel
theorem dL_law_839 : decode cL_law 839 = .ok (.aload_n 3, 1) := by decide +kernel
theorem dL_law_840 : decode cL_law 840 = .ok (.iconst 0, 1) := by decide +kernel
theorem dL_law_841 : decode cL_law 841 = .ok (.laload, 1) := by decide +kernel
theorem dL_law_842 : decode cL_law 842 = .ok (.iload 6, 2) := by decide +kernel
theorem dL_law_844 : decode cL_law 844 = .ok (.i2l, 1) := by decide +kernel
theorem dL_law_845 : decode cL_law 845 = .ok (.lcmp, 1) := by decide +kernel
theorem dL_law_846 : decode cL_law 846 = .ok (.ifCond .eq 5, 3) := by decide +kernel
theorem dL_law_849 : decode cL_law 849 = .ok (.iconst 0, 1) := by decide +kernel
theorem dL_law_850 : decode cL_law 850 = .ok (.ireturn, 1) := by decide +kernel
theorem dL_law_851 : decode cL_law 851 = .ok (.goto 854, 3) := by decide +kernel
theorem dL_law_854 : decode cL_law 854 = .ok (.aload_n 1, 1) := by decide +kernel
theorem dL_law_855 : decode cL_law 855 = .ok (.aload_n 0, 1) := by decide +kernel
theorem dL_law_856 : decode cL_law 856 = .ok (.iload 4, 2) := by decide +kernel
theorem dL_law_858 : decode cL_law 858 = .ok (.iconst 1, 1) := by decide +kernel
theorem dL_law_859 : decode cL_law 859 = .ok (.iadd, 1) := by decide +kernel
theorem dL_law_860 : decode cL_law 860 = .ok (.iaload, 1) := by decide +kernel
theorem dL_law_861 : decode cL_law 861 = .ok (.aload_n 3, 1) := by decide +kernel
theorem dL_law_862 : decode cL_law 862 = .ok (.invokestatic 142, 3) := by decide +kernel
theorem dL_law_865 : decode cL_law 865 = .ok (.istore 5, 2) := by decide +kernel
theorem dL_law_867 : decode cL_law 867 = .ok (.aload_n 2, 1) := by decide +kernel
theorem dL_law_868 : decode cL_law 868 = .ok (.aload_n 0, 1) := by decide +kernel
theorem dL_law_869 : decode cL_law 869 = .ok (.iload 4, 2) := by decide +kernel
theorem dL_law_871 : decode cL_law 871 = .ok (.iconst 1, 1) := by decide +kernel
theorem dL_law_872 : decode cL_law 872 = .ok (.iadd, 1) := by decide +kernel
theorem dL_law_873 : decode cL_law 873 = .ok (.iaload, 1) := by decide +kernel
theorem dL_law_874 : decode cL_law 874 = .ok (.invokevirtual 144, 3) := by decide +kernel
theorem dL_law_877 : decode cL_law 877 = .ok (.istore 6, 2) := by decide +kernel
theorem dL_law_879 : decode cL_law 879 = .ok (.aload_n 2, 1) := by decide +kernel
theorem dL_law_880 : decode cL_law 880 = .ok (.invokevirtual 98, 3) := by decide +kernel
theorem dL_law_883 : decode cL_law 883 = .ok (.iload 5, 2) := by decide +kernel
theorem dL_law_885 : decode cL_law 885 = .ok (.if_icmp .eq 5, 3) := by decide +kernel
theorem dL_law_888 : decode cL_law 888 = .ok (.iconst 0, 1) := by decide +kernel
theorem dL_law_889 : decode cL_law 889 = .ok (.ireturn, 1) := by decide +kernel
theorem dL_law_890 : decode cL_law 890 = .ok (.iload 5, 2) := by decide +kernel
theorem dL_law_892 : decode cL_law 892 = .ok (.ifCond .ne 15, 3) := by decide +kernel
theorem dL_law_895 : decode cL_law 895 = .ok (.aload_n 3, 1) := by decide +kernel
theorem dL_law_896 : decode cL_law 896 = .ok (.iconst 0, 1) := by decide +kernel
theorem dL_law_897 : decode cL_law 897 = .ok (.laload, 1) := by decide +kernel
theorem dL_law_898 : decode cL_law 898 = .ok (.iload 6, 2) := by decide +kernel
theorem dL_law_900 : decode cL_law 900 = .ok (.i2l, 1) := by decide +kernel
theorem dL_law_901 : decode cL_law 901 = .ok (.lcmp, 1) := by decide +kernel
theorem dL_law_902 : decode cL_law 902 = .ok (.ifCond .eq 5, 3) := by decide +kernel
theorem dL_law_905 : decode cL_law 905 = .ok (.iconst 0, 1) := by decide +kernel
theorem dL_law_906 : decode cL_law 906 = .ok (.ireturn, 1) := by decide +kernel
theorem dL_law_907 : decode cL_law 907 = .ok (.goto 798, 3) := by decide +kernel
theorem dL_law_910 : decode cL_law 910 = .ok (.aload_n 1, 1) := by decide +kernel
theorem dL_law_911 : decode cL_law 911 = .ok (.aload_n 0, 1) := by decide +kernel
theorem dL_law_912 : decode cL_law 912 = .ok (.iload 4, 2) := by decide +kernel
theorem dL_law_914 : decode cL_law 914 = .ok (.iconst 1, 1) := by decide +kernel
theorem dL_law_915 : decode cL_law 915 = .ok (.iadd, 1) := by decide +kernel
theorem dL_law_916 : decode cL_law 916 = .ok (.iaload, 1) := by decide +kernel
theorem dL_law_917 : decode cL_law 917 = .ok (.aload_n 3, 1) := by decide +kernel
theorem dL_law_918 : decode cL_law 918 = .ok (.invokestatic 145, 3) := by decide +kernel
theorem dL_law_921 : decode cL_law 921 = .ok (.istore 5, 2) := by decide +kernel
theorem dL_law_923 : decode cL_law 923 = .ok (.aload_n 2, 1) := by decide +kernel
theorem dL_law_924 : decode cL_law 924 = .ok (.aload_n 0, 1) := by decide +kernel
theorem dL_law_925 : decode cL_law 925 = .ok (.iload 4, 2) := by decide +kernel
theorem dL_law_927 : decode cL_law 927 = .ok (.iconst 1, 1) := by decide +kernel
theorem dL_law_928 : decode cL_law 928 = .ok (.iadd, 1) := by decide +kernel
theorem dL_law_929 : decode cL_law 929 = .ok (.iaload, 1) := by decide +kernel
theorem dL_law_930 : decode cL_law 930 = .ok (.invokevirtual 147, 3) := by decide +kernel
theorem dL_law_933 : decode cL_law 933 = .ok (.istore 6, 2) := by decide +kernel
theorem dL_law_935 : decode cL_law 935 = .ok (.aload_n 2, 1) := by decide +kernel
theorem dL_law_936 : decode cL_law 936 = .ok (.invokevirtual 98, 3) := by decide +kernel
theorem dL_law_939 : decode cL_law 939 = .ok (.iload 5, 2) := by decide +kernel
theorem dL_law_941 : decode cL_law 941 = .ok (.if_icmp .eq 5, 3) := by decide +kernel
theorem dL_law_944 : decode cL_law 944 = .ok (.iconst 0, 1) := by decide +kernel
theorem dL_law_945 : decode cL_law 945 = .ok (.ireturn, 1) := by decide +kernel
theorem dL_law_946 : decode cL_law 946 = .ok (.iload 5, 2) := by decide +kernel
theorem dL_law_948 : decode cL_law 948 = .ok (.ifCond .ne 15, 3) := by decide +kernel
theorem dL_law_951 : decode cL_law 951 = .ok (.aload_n 3, 1) := by decide +kernel
theorem dL_law_952 : decode cL_law 952 = .ok (.iconst 0, 1) := by decide +kernel
theorem dL_law_953 : decode cL_law 953 = .ok (.laload, 1) := by decide +kernel
theorem dL_law_954 : decode cL_law 954 = .ok (.iload 6, 2) := by decide +kernel
theorem dL_law_956 : decode cL_law 956 = .ok (.i2l, 1) := by decide +kernel
theorem dL_law_957 : decode cL_law 957 = .ok (.lcmp, 1) := by decide +kernel
theorem dL_law_958 : decode cL_law 958 = .ok (.ifCond .eq 5, 3) := by decide +kernel
theorem dL_law_961 : decode cL_law 961 = .ok (.iconst 0, 1) := by decide +kernel
theorem dL_law_962 : decode cL_law 962 = .ok (.ireturn, 1) := by decide +kernel
theorem dL_law_963 : decode cL_law 963 = .ok (.goto 742, 3) := by decide +kernel
theorem dL_law_966 : decode cL_law 966 = .ok (.aload_n 1, 1) := by decide +kernel
theorem dL_law_967 : decode cL_law 967 = .ok (.aload_n 3, 1) := by decide +kernel
theorem dL_law_968 : decode cL_law 968 = .ok (.invokestatic 148, 3) := by decide +kernel
theorem dL_law_971 : decode cL_law 971 = .ok (.istore 5, 2) := by decide +kernel
theorem dL_law_973 : decode cL_law 973 = .ok (.aload_n 2, 1) := by decide +kernel
theorem dL_law_974 : decode cL_law 974 = .ok (.invokevirtual 150, 3) := by decide +kernel
theorem dL_law_977 : decode cL_law 977 = .ok (.istore 6, 2) := by decide +kernel
theorem dL_law_979 : decode cL_law 979 = .ok (.aload_n 2, 1) := by decide +kernel
theorem dL_law_980 : decode cL_law 980 = .ok (.invokevirtual 98, 3) := by decide +kernel
theorem dL_law_983 : decode cL_law 983 = .ok (.iload 5, 2) := by decide +kernel
theorem dL_law_985 : decode cL_law 985 = .ok (.if_icmp .eq 5, 3) := by decide +kernel
theorem dL_law_988 : decode cL_law 988 = .ok (.iconst 0, 1) := by decide +kernel
theorem dL_law_989 : decode cL_law 989 = .ok (.ireturn, 1) := by decide +kernel
theorem dL_law_990 : decode cL_law 990 = .ok (.iload 5, 2) := by decide +kernel
theorem dL_law_992 : decode cL_law 992 = .ok (.ifCond .ne 15, 3) := by decide +kernel
theorem dL_law_995 : decode cL_law 995 = .ok (.aload_n 3, 1) := by decide +kernel
theorem dL_law_996 : decode cL_law 996 = .ok (.iconst 0, 1) := by decide +kernel
theorem dL_law_997 : decode cL_law 997 = .ok (.laload, 1) := by decide +kernel
theorem dL_law_998 : decode cL_law 998 = .ok (.iload 6, 2) := by decide +kernel
theorem dL_law_1000 : decode cL_law 1000 = .ok (.i2l, 1) := by decide +kernel
theorem dL_law_1001 : decode cL_law 1001 = .ok (.lcmp, 1) := by decide +kernel
theorem dL_law_1002 : decode cL_law 1002 = .ok (.ifCond .eq 5, 3) := by decide +kernel
theorem dL_law_1005 : decode cL_law 1005 = .ok (.iconst 0, 1) := by decide +kernel
theorem dL_law_1006 : decode cL_law 1006 = .ok (.ireturn, 1) := by decide +kernel
theorem dL_law_1007 : decode cL_law 1007 = .ok (.goto 698, 3) := by decide +kernel
theorem dL_law_1010 : decode cL_law 1010 = .ok (.aload_n 1, 1) := by decide +kernel
theorem dL_law_1011 : decode cL_law 1011 = .ok (.aload_n 0, 1) := by decide +kernel
theorem dL_law_1012 : decode cL_law 1012 = .ok (.iload 4, 2) := by decide +kernel
theorem dL_law_1014 : decode cL_law 1014 = .ok (.iconst 1, 1) := by decide +kernel
theorem dL_law_1015 : decode cL_law 1015 = .ok (.iadd, 1) := by decide +kernel
theorem dL_law_1016 : decode cL_law 1016 = .ok (.iaload, 1) := by decide +kernel
theorem dL_law_1017 : decode cL_law 1017 = .ok (.aload_n 0, 1) := by decide +kernel
theorem dL_law_1018 : decode cL_law 1018 = .ok (.iload 4, 2) := by decide +kernel
theorem dL_law_1020 : decode cL_law 1020 = .ok (.iconst 2, 1) := by decide +kernel
theorem dL_law_1021 : decode cL_law 1021 = .ok (.iadd, 1) := by decide +kernel
theorem dL_law_1022 : decode cL_law 1022 = .ok (.iaload, 1) := by decide +kernel
theorem dL_law_1023 : decode cL_law 1023 = .ok (.aload_n 3, 1) := by decide +kernel
theorem dL_law_1024 : decode cL_law 1024 = .ok (.invokestatic 151, 3) := by decide +kernel
theorem dL_law_1027 : decode cL_law 1027 = .ok (.istore 5, 2) := by decide +kernel
theorem dL_law_1029 : decode cL_law 1029 = .ok (.aload_n 2, 1) := by decide +kernel
theorem dL_law_1030 : decode cL_law 1030 = .ok (.aload_n 0, 1) := by decide +kernel
theorem dL_law_1031 : decode cL_law 1031 = .ok (.iload 4, 2) := by decide +kernel
theorem dL_law_1033 : decode cL_law 1033 = .ok (.iconst 1, 1) := by decide +kernel
theorem dL_law_1034 : decode cL_law 1034 = .ok (.iadd, 1) := by decide +kernel
theorem dL_law_1035 : decode cL_law 1035 = .ok (.iaload, 1) := by decide +kernel
theorem dL_law_1036 : decode cL_law 1036 = .ok (.aload_n 0, 1) := by decide +kernel
theorem dL_law_1037 : decode cL_law 1037 = .ok (.iload 4, 2) := by decide +kernel
theorem dL_law_1039 : decode cL_law 1039 = .ok (.iconst 2, 1) := by decide +kernel
theorem dL_law_1040 : decode cL_law 1040 = .ok (.iadd, 1) := by decide +kernel
theorem dL_law_1041 : decode cL_law 1041 = .ok (.iaload, 1) := by decide +kernel
theorem dL_law_1042 : decode cL_law 1042 = .ok (.invokevirtual 153, 3) := by decide +kernel
theorem dL_law_1045 : decode cL_law 1045 = .ok (.istore 6, 2) := by decide +kernel
theorem dL_law_1047 : decode cL_law 1047 = .ok (.aload_n 2, 1) := by decide +kernel
theorem dL_law_1048 : decode cL_law 1048 = .ok (.invokevirtual 98, 3) := by decide +kernel
theorem dL_law_1051 : decode cL_law 1051 = .ok (.iload 5, 2) := by decide +kernel
theorem dL_law_1053 : decode cL_law 1053 = .ok (.if_icmp .eq 5, 3) := by decide +kernel
theorem dL_law_1056 : decode cL_law 1056 = .ok (.iconst 0, 1) := by decide +kernel
theorem dL_law_1057 : decode cL_law 1057 = .ok (.ireturn, 1) := by decide +kernel
theorem dL_law_1058 : decode cL_law 1058 = .ok (.iload 5, 2) := by decide +kernel
theorem dL_law_1060 : decode cL_law 1060 = .ok (.ifCond .ne 15, 3) := by decide +kernel
theorem dL_law_1063 : decode cL_law 1063 = .ok (.aload_n 3, 1) := by decide +kernel
theorem dL_law_1064 : decode cL_law 1064 = .ok (.iconst 0, 1) := by decide +kernel
theorem dL_law_1065 : decode cL_law 1065 = .ok (.laload, 1) := by decide +kernel
theorem dL_law_1066 : decode cL_law 1066 = .ok (.iload 6, 2) := by decide +kernel
theorem dL_law_1068 : decode cL_law 1068 = .ok (.i2l, 1) := by decide +kernel
theorem dL_law_1069 : decode cL_law 1069 = .ok (.lcmp, 1) := by decide +kernel
theorem dL_law_1070 : decode cL_law 1070 = .ok (.ifCond .eq 5, 3) := by decide +kernel
theorem dL_law_1073 : decode cL_law 1073 = .ok (.iconst 0, 1) := by decide +kernel
theorem dL_law_1074 : decode cL_law 1074 = .ok (.ireturn, 1) := by decide +kernel
theorem dL_law_1075 : decode cL_law 1075 = .ok (.goto 630, 3) := by decide +kernel
theorem dL_law_1078 : decode cL_law 1078 = .ok (.aload_n 1, 1) := by decide +kernel
theorem dL_law_1079 : decode cL_law 1079 = .ok (.aload_n 0, 1) := by decide +kernel
theorem dL_law_1080 : decode cL_law 1080 = .ok (.iload 4, 2) := by decide +kernel
theorem dL_law_1082 : decode cL_law 1082 = .ok (.iconst 1, 1) := by decide +kernel
theorem dL_law_1083 : decode cL_law 1083 = .ok (.iadd, 1) := by decide +kernel
theorem dL_law_1084 : decode cL_law 1084 = .ok (.iaload, 1) := by decide +kernel
theorem dL_law_1085 : decode cL_law 1085 = .ok (.aload_n 0, 1) := by decide +kernel
theorem dL_law_1086 : decode cL_law 1086 = .ok (.iload 4, 2) := by decide +kernel
theorem dL_law_1088 : decode cL_law 1088 = .ok (.iconst 2, 1) := by decide +kernel
theorem dL_law_1089 : decode cL_law 1089 = .ok (.iadd, 1) := by decide +kernel
theorem dL_law_1090 : decode cL_law 1090 = .ok (.iaload, 1) := by decide +kernel
theorem dL_law_1091 : decode cL_law 1091 = .ok (.aload_n 3, 1) := by decide +kernel
theorem dL_law_1092 : decode cL_law 1092 = .ok (.invokestatic 154, 3) := by decide +kernel
theorem dL_law_1095 : decode cL_law 1095 = .ok (.istore 5, 2) := by decide +kernel
theorem dL_law_1097 : decode cL_law 1097 = .ok (.aload_n 2, 1) := by decide +kernel
theorem dL_law_1098 : decode cL_law 1098 = .ok (.aload_n 0, 1) := by decide +kernel
theorem dL_law_1099 : decode cL_law 1099 = .ok (.iload 4, 2) := by decide +kernel
theorem dL_law_1101 : decode cL_law 1101 = .ok (.iconst 1, 1) := by decide +kernel
theorem dL_law_1102 : decode cL_law 1102 = .ok (.iadd, 1) := by decide +kernel
theorem dL_law_1103 : decode cL_law 1103 = .ok (.iaload, 1) := by decide +kernel
theorem dL_law_1104 : decode cL_law 1104 = .ok (.aload_n 0, 1) := by decide +kernel
theorem dL_law_1105 : decode cL_law 1105 = .ok (.iload 4, 2) := by decide +kernel
theorem dL_law_1107 : decode cL_law 1107 = .ok (.iconst 2, 1) := by decide +kernel
theorem dL_law_1108 : decode cL_law 1108 = .ok (.iadd, 1) := by decide +kernel
theorem dL_law_1109 : decode cL_law 1109 = .ok (.iaload, 1) := by decide +kernel
theorem dL_law_1110 : decode cL_law 1110 = .ok (.invokevirtual 156, 3) := by decide +kernel
theorem dL_law_1113 : decode cL_law 1113 = .ok (.istore 6, 2) := by decide +kernel
theorem dL_law_1115 : decode cL_law 1115 = .ok (.aload_n 2, 1) := by decide +kernel
theorem dL_law_1116 : decode cL_law 1116 = .ok (.invokevirtual 98, 3) := by decide +kernel
theorem dL_law_1119 : decode cL_law 1119 = .ok (.iload 5, 2) := by decide +kernel
theorem dL_law_1121 : decode cL_law 1121 = .ok (.if_icmp .eq 5, 3) := by decide +kernel
theorem dL_law_1124 : decode cL_law 1124 = .ok (.iconst 0, 1) := by decide +kernel
theorem dL_law_1125 : decode cL_law 1125 = .ok (.ireturn, 1) := by decide +kernel
theorem dL_law_1126 : decode cL_law 1126 = .ok (.iload 5, 2) := by decide +kernel
theorem dL_law_1128 : decode cL_law 1128 = .ok (.ifCond .ne 15, 3) := by decide +kernel
theorem dL_law_1131 : decode cL_law 1131 = .ok (.aload_n 3, 1) := by decide +kernel
theorem dL_law_1132 : decode cL_law 1132 = .ok (.iconst 0, 1) := by decide +kernel
theorem dL_law_1133 : decode cL_law 1133 = .ok (.laload, 1) := by decide +kernel
theorem dL_law_1134 : decode cL_law 1134 = .ok (.iload 6, 2) := by decide +kernel
theorem dL_law_1136 : decode cL_law 1136 = .ok (.i2l, 1) := by decide +kernel
theorem dL_law_1137 : decode cL_law 1137 = .ok (.lcmp, 1) := by decide +kernel
theorem dL_law_1138 : decode cL_law 1138 = .ok (.ifCond .eq 5, 3) := by decide +kernel
theorem dL_law_1141 : decode cL_law 1141 = .ok (.iconst 0, 1) := by decide +kernel
theorem dL_law_1142 : decode cL_law 1142 = .ok (.ireturn, 1) := by decide +kernel
theorem dL_law_1143 : decode cL_law 1143 = .ok (.goto 562, 3) := by decide +kernel
theorem dL_law_1146 : decode cL_law 1146 = .ok (.aload_n 1, 1) := by decide +kernel
theorem dL_law_1147 : decode cL_law 1147 = .ok (.aload_n 0, 1) := by decide +kernel
theorem dL_law_1148 : decode cL_law 1148 = .ok (.iload 4, 2) := by decide +kernel
theorem dL_law_1150 : decode cL_law 1150 = .ok (.iconst 1, 1) := by decide +kernel
theorem dL_law_1151 : decode cL_law 1151 = .ok (.iadd, 1) := by decide +kernel
theorem dL_law_1152 : decode cL_law 1152 = .ok (.iaload, 1) := by decide +kernel
theorem dL_law_1153 : decode cL_law 1153 = .ok (.aload_n 0, 1) := by decide +kernel
theorem dL_law_1154 : decode cL_law 1154 = .ok (.iload 4, 2) := by decide +kernel
theorem dL_law_1156 : decode cL_law 1156 = .ok (.iconst 2, 1) := by decide +kernel
theorem dL_law_1157 : decode cL_law 1157 = .ok (.iadd, 1) := by decide +kernel
theorem dL_law_1158 : decode cL_law 1158 = .ok (.iaload, 1) := by decide +kernel
theorem dL_law_1159 : decode cL_law 1159 = .ok (.aload_n 0, 1) := by decide +kernel
theorem dL_law_1160 : decode cL_law 1160 = .ok (.iload 4, 2) := by decide +kernel
theorem dL_law_1162 : decode cL_law 1162 = .ok (.iconst 3, 1) := by decide +kernel
theorem dL_law_1163 : decode cL_law 1163 = .ok (.iadd, 1) := by decide +kernel
theorem dL_law_1164 : decode cL_law 1164 = .ok (.iaload, 1) := by decide +kernel
theorem dL_law_1165 : decode cL_law 1165 = .ok (.aload_n 3, 1) := by decide +kernel
theorem dL_law_1166 : decode cL_law 1166 = .ok (.invokestatic 157, 3) := by decide +kernel
theorem dL_law_1169 : decode cL_law 1169 = .ok (.istore 5, 2) := by decide +kernel
theorem dL_law_1171 : decode cL_law 1171 = .ok (.aload_n 2, 1) := by decide +kernel
theorem dL_law_1172 : decode cL_law 1172 = .ok (.aload_n 0, 1) := by decide +kernel
theorem dL_law_1173 : decode cL_law 1173 = .ok (.iload 4, 2) := by decide +kernel
theorem dL_law_1175 : decode cL_law 1175 = .ok (.iconst 1, 1) := by decide +kernel
theorem dL_law_1176 : decode cL_law 1176 = .ok (.iadd, 1) := by decide +kernel
theorem dL_law_1177 : decode cL_law 1177 = .ok (.iaload, 1) := by decide +kernel
theorem dL_law_1178 : decode cL_law 1178 = .ok (.aload_n 0, 1) := by decide +kernel
theorem dL_law_1179 : decode cL_law 1179 = .ok (.iload 4, 2) := by decide +kernel
theorem dL_law_1181 : decode cL_law 1181 = .ok (.iconst 2, 1) := by decide +kernel
theorem dL_law_1182 : decode cL_law 1182 = .ok (.iadd, 1) := by decide +kernel
theorem dL_law_1183 : decode cL_law 1183 = .ok (.iaload, 1) := by decide +kernel
theorem dL_law_1184 : decode cL_law 1184 = .ok (.aload_n 0, 1) := by decide +kernel
theorem dL_law_1185 : decode cL_law 1185 = .ok (.iload 4, 2) := by decide +kernel
theorem dL_law_1187 : decode cL_law 1187 = .ok (.iconst 3, 1) := by decide +kernel
theorem dL_law_1188 : decode cL_law 1188 = .ok (.iadd, 1) := by decide +kernel
theorem dL_law_1189 : decode cL_law 1189 = .ok (.iaload, 1) := by decide +kernel
theorem dL_law_1190 : decode cL_law 1190 = .ok (.invokevirtual 159, 3) := by decide +kernel
theorem dL_law_1193 : decode cL_law 1193 = .ok (.istore 6, 2) := by decide +kernel
theorem dL_law_1195 : decode cL_law 1195 = .ok (.aload_n 2, 1) := by decide +kernel
theorem dL_law_1196 : decode cL_law 1196 = .ok (.invokevirtual 98, 3) := by decide +kernel
theorem dL_law_1199 : decode cL_law 1199 = .ok (.iload 5, 2) := by decide +kernel
theorem dL_law_1201 : decode cL_law 1201 = .ok (.if_icmp .eq 5, 3) := by decide +kernel
theorem dL_law_1204 : decode cL_law 1204 = .ok (.iconst 0, 1) := by decide +kernel
theorem dL_law_1205 : decode cL_law 1205 = .ok (.ireturn, 1) := by decide +kernel
theorem dL_law_1206 : decode cL_law 1206 = .ok (.iload 5, 2) := by decide +kernel
theorem dL_law_1208 : decode cL_law 1208 = .ok (.ifCond .ne 15, 3) := by decide +kernel
theorem dL_law_1211 : decode cL_law 1211 = .ok (.aload_n 3, 1) := by decide +kernel
theorem dL_law_1212 : decode cL_law 1212 = .ok (.iconst 0, 1) := by decide +kernel
theorem dL_law_1213 : decode cL_law 1213 = .ok (.laload, 1) := by decide +kernel
theorem dL_law_1214 : decode cL_law 1214 = .ok (.iload 6, 2) := by decide +kernel
theorem dL_law_1216 : decode cL_law 1216 = .ok (.i2l, 1) := by decide +kernel
theorem dL_law_1217 : decode cL_law 1217 = .ok (.lcmp, 1) := by decide +kernel
theorem dL_law_1218 : decode cL_law 1218 = .ok (.ifCond .eq 5, 3) := by decide +kernel
theorem dL_law_1221 : decode cL_law 1221 = .ok (.iconst 0, 1) := by decide +kernel
theorem dL_law_1222 : decode cL_law 1222 = .ok (.ireturn, 1) := by decide +kernel
theorem dL_law_1223 : decode cL_law 1223 = .ok (.goto 482, 3) := by decide +kernel
theorem dL_law_1226 : decode cL_law 1226 = .ok (.aload_n 1, 1) := by decide +kernel
theorem dL_law_1227 : decode cL_law 1227 = .ok (.aload_n 0, 1) := by decide +kernel
theorem dL_law_1228 : decode cL_law 1228 = .ok (.iload 4, 2) := by decide +kernel
theorem dL_law_1230 : decode cL_law 1230 = .ok (.iconst 1, 1) := by decide +kernel
theorem dL_law_1231 : decode cL_law 1231 = .ok (.iadd, 1) := by decide +kernel
theorem dL_law_1232 : decode cL_law 1232 = .ok (.iaload, 1) := by decide +kernel
theorem dL_law_1233 : decode cL_law 1233 = .ok (.aload_n 0, 1) := by decide +kernel
theorem dL_law_1234 : decode cL_law 1234 = .ok (.iload 4, 2) := by decide +kernel
theorem dL_law_1236 : decode cL_law 1236 = .ok (.iconst 2, 1) := by decide +kernel
theorem dL_law_1237 : decode cL_law 1237 = .ok (.iadd, 1) := by decide +kernel
theorem dL_law_1238 : decode cL_law 1238 = .ok (.iaload, 1) := by decide +kernel
theorem dL_law_1239 : decode cL_law 1239 = .ok (.aload_n 3, 1) := by decide +kernel
theorem dL_law_1240 : decode cL_law 1240 = .ok (.invokestatic 160, 3) := by decide +kernel
theorem dL_law_1243 : decode cL_law 1243 = .ok (.istore 5, 2) := by decide +kernel
theorem dL_law_1245 : decode cL_law 1245 = .ok (.aload_n 2, 1) := by decide +kernel
theorem dL_law_1246 : decode cL_law 1246 = .ok (.aload_n 0, 1) := by decide +kernel
theorem dL_law_1247 : decode cL_law 1247 = .ok (.iload 4, 2) := by decide +kernel
theorem dL_law_1249 : decode cL_law 1249 = .ok (.iconst 1, 1) := by decide +kernel
theorem dL_law_1250 : decode cL_law 1250 = .ok (.iadd, 1) := by decide +kernel
theorem dL_law_1251 : decode cL_law 1251 = .ok (.iaload, 1) := by decide +kernel
theorem dL_law_1252 : decode cL_law 1252 = .ok (.aload_n 0, 1) := by decide +kernel
theorem dL_law_1253 : decode cL_law 1253 = .ok (.iload 4, 2) := by decide +kernel
theorem dL_law_1255 : decode cL_law 1255 = .ok (.iconst 2, 1) := by decide +kernel
theorem dL_law_1256 : decode cL_law 1256 = .ok (.iadd, 1) := by decide +kernel
theorem dL_law_1257 : decode cL_law 1257 = .ok (.iaload, 1) := by decide +kernel
theorem dL_law_1258 : decode cL_law 1258 = .ok (.invokevirtual 162, 3) := by decide +kernel
theorem dL_law_1261 : decode cL_law 1261 = .ok (.istore 6, 2) := by decide +kernel
theorem dL_law_1263 : decode cL_law 1263 = .ok (.aload_n 2, 1) := by decide +kernel
theorem dL_law_1264 : decode cL_law 1264 = .ok (.invokevirtual 98, 3) := by decide +kernel
theorem dL_law_1267 : decode cL_law 1267 = .ok (.iload 5, 2) := by decide +kernel
theorem dL_law_1269 : decode cL_law 1269 = .ok (.if_icmp .eq 5, 3) := by decide +kernel
theorem dL_law_1272 : decode cL_law 1272 = .ok (.iconst 0, 1) := by decide +kernel
theorem dL_law_1273 : decode cL_law 1273 = .ok (.ireturn, 1) := by decide +kernel
theorem dL_law_1274 : decode cL_law 1274 = .ok (.iload 5, 2) := by decide +kernel
theorem dL_law_1276 : decode cL_law 1276 = .ok (.ifCond .ne 15, 3) := by decide +kernel
theorem dL_law_1279 : decode cL_law 1279 = .ok (.aload_n 3, 1) := by decide +kernel
theorem dL_law_1280 : decode cL_law 1280 = .ok (.iconst 0, 1) := by decide +kernel
theorem dL_law_1281 : decode cL_law 1281 = .ok (.laload, 1) := by decide +kernel
theorem dL_law_1282 : decode cL_law 1282 = .ok (.iload 6, 2) := by decide +kernel
theorem dL_law_1284 : decode cL_law 1284 = .ok (.i2l, 1) := by decide +kernel
theorem dL_law_1285 : decode cL_law 1285 = .ok (.lcmp, 1) := by decide +kernel
theorem dL_law_1286 : decode cL_law 1286 = .ok (.ifCond .eq 5, 3) := by decide +kernel
theorem dL_law_1289 : decode cL_law 1289 = .ok (.iconst 0, 1) := by decide +kernel
theorem dL_law_1290 : decode cL_law 1290 = .ok (.ireturn, 1) := by decide +kernel
theorem dL_law_1291 : decode cL_law 1291 = .ok (.goto 414, 3) := by decide +kernel
theorem dL_law_1294 : decode cL_law 1294 = .ok (.aload_n 1, 1) := by decide +kernel
theorem dL_law_1295 : decode cL_law 1295 = .ok (.aload_n 0, 1) := by decide +kernel
theorem dL_law_1296 : decode cL_law 1296 = .ok (.iload 4, 2) := by decide +kernel
theorem dL_law_1298 : decode cL_law 1298 = .ok (.iconst 1, 1) := by decide +kernel
theorem dL_law_1299 : decode cL_law 1299 = .ok (.iadd, 1) := by decide +kernel
theorem dL_law_1300 : decode cL_law 1300 = .ok (.iaload, 1) := by decide +kernel
theorem dL_law_1301 : decode cL_law 1301 = .ok (.aload_n 0, 1) := by decide +kernel
theorem dL_law_1302 : decode cL_law 1302 = .ok (.iload 4, 2) := by decide +kernel
theorem dL_law_1304 : decode cL_law 1304 = .ok (.iconst 2, 1) := by decide +kernel
theorem dL_law_1305 : decode cL_law 1305 = .ok (.iadd, 1) := by decide +kernel
theorem dL_law_1306 : decode cL_law 1306 = .ok (.iaload, 1) := by decide +kernel
theorem dL_law_1307 : decode cL_law 1307 = .ok (.aload_n 0, 1) := by decide +kernel
theorem dL_law_1308 : decode cL_law 1308 = .ok (.iload 4, 2) := by decide +kernel
theorem dL_law_1310 : decode cL_law 1310 = .ok (.iconst 3, 1) := by decide +kernel
theorem dL_law_1311 : decode cL_law 1311 = .ok (.iadd, 1) := by decide +kernel
theorem dL_law_1312 : decode cL_law 1312 = .ok (.iaload, 1) := by decide +kernel
theorem dL_law_1313 : decode cL_law 1313 = .ok (.aload_n 3, 1) := by decide +kernel
theorem dL_law_1314 : decode cL_law 1314 = .ok (.invokestatic 163, 3) := by decide +kernel
theorem dL_law_1317 : decode cL_law 1317 = .ok (.istore 5, 2) := by decide +kernel
theorem dL_law_1319 : decode cL_law 1319 = .ok (.aload_n 2, 1) := by decide +kernel
theorem dL_law_1320 : decode cL_law 1320 = .ok (.aload_n 0, 1) := by decide +kernel
theorem dL_law_1321 : decode cL_law 1321 = .ok (.iload 4, 2) := by decide +kernel
theorem dL_law_1323 : decode cL_law 1323 = .ok (.iconst 1, 1) := by decide +kernel
theorem dL_law_1324 : decode cL_law 1324 = .ok (.iadd, 1) := by decide +kernel
theorem dL_law_1325 : decode cL_law 1325 = .ok (.iaload, 1) := by decide +kernel
theorem dL_law_1326 : decode cL_law 1326 = .ok (.aload_n 0, 1) := by decide +kernel
theorem dL_law_1327 : decode cL_law 1327 = .ok (.iload 4, 2) := by decide +kernel
theorem dL_law_1329 : decode cL_law 1329 = .ok (.iconst 2, 1) := by decide +kernel
theorem dL_law_1330 : decode cL_law 1330 = .ok (.iadd, 1) := by decide +kernel
theorem dL_law_1331 : decode cL_law 1331 = .ok (.iaload, 1) := by decide +kernel
theorem dL_law_1332 : decode cL_law 1332 = .ok (.aload_n 0, 1) := by decide +kernel
theorem dL_law_1333 : decode cL_law 1333 = .ok (.iload 4, 2) := by decide +kernel
theorem dL_law_1335 : decode cL_law 1335 = .ok (.iconst 3, 1) := by decide +kernel
theorem dL_law_1336 : decode cL_law 1336 = .ok (.iadd, 1) := by decide +kernel
theorem dL_law_1337 : decode cL_law 1337 = .ok (.iaload, 1) := by decide +kernel
theorem dL_law_1338 : decode cL_law 1338 = .ok (.invokevirtual 165, 3) := by decide +kernel
theorem dL_law_1341 : decode cL_law 1341 = .ok (.istore 6, 2) := by decide +kernel
theorem dL_law_1343 : decode cL_law 1343 = .ok (.aload_n 2, 1) := by decide +kernel
theorem dL_law_1344 : decode cL_law 1344 = .ok (.invokevirtual 98, 3) := by decide +kernel
theorem dL_law_1347 : decode cL_law 1347 = .ok (.iload 5, 2) := by decide +kernel
theorem dL_law_1349 : decode cL_law 1349 = .ok (.if_icmp .eq 5, 3) := by decide +kernel
theorem dL_law_1352 : decode cL_law 1352 = .ok (.iconst 0, 1) := by decide +kernel
theorem dL_law_1353 : decode cL_law 1353 = .ok (.ireturn, 1) := by decide +kernel
theorem dL_law_1354 : decode cL_law 1354 = .ok (.iload 5, 2) := by decide +kernel
theorem dL_law_1356 : decode cL_law 1356 = .ok (.ifCond .ne 15, 3) := by decide +kernel
theorem dL_law_1359 : decode cL_law 1359 = .ok (.aload_n 3, 1) := by decide +kernel
theorem dL_law_1360 : decode cL_law 1360 = .ok (.iconst 0, 1) := by decide +kernel
theorem dL_law_1361 : decode cL_law 1361 = .ok (.laload, 1) := by decide +kernel
theorem dL_law_1362 : decode cL_law 1362 = .ok (.iload 6, 2) := by decide +kernel
theorem dL_law_1364 : decode cL_law 1364 = .ok (.i2l, 1) := by decide +kernel
theorem dL_law_1365 : decode cL_law 1365 = .ok (.lcmp, 1) := by decide +kernel
theorem dL_law_1366 : decode cL_law 1366 = .ok (.ifCond .eq 5, 3) := by decide +kernel
theorem dL_law_1369 : decode cL_law 1369 = .ok (.iconst 0, 1) := by decide +kernel
theorem dL_law_1370 : decode cL_law 1370 = .ok (.ireturn, 1) := by decide +kernel
theorem dL_law_1371 : decode cL_law 1371 = .ok (.goto 334, 3) := by decide +kernel
theorem dL_law_1374 : decode cL_law 1374 = .ok (.aload_n 1, 1) := by decide +kernel
theorem dL_law_1375 : decode cL_law 1375 = .ok (.aload_n 0, 1) := by decide +kernel
theorem dL_law_1376 : decode cL_law 1376 = .ok (.iload 4, 2) := by decide +kernel
theorem dL_law_1378 : decode cL_law 1378 = .ok (.iconst 1, 1) := by decide +kernel
theorem dL_law_1379 : decode cL_law 1379 = .ok (.iadd, 1) := by decide +kernel
theorem dL_law_1380 : decode cL_law 1380 = .ok (.iaload, 1) := by decide +kernel
theorem dL_law_1381 : decode cL_law 1381 = .ok (.aload_n 3, 1) := by decide +kernel
theorem dL_law_1382 : decode cL_law 1382 = .ok (.invokestatic 166, 3) := by decide +kernel
theorem dL_law_1385 : decode cL_law 1385 = .ok (.istore 5, 2) := by decide +kernel
theorem dL_law_1387 : decode cL_law 1387 = .ok (.aload_n 2, 1) := by decide +kernel
theorem dL_law_1388 : decode cL_law 1388 = .ok (.aload_n 0, 1) := by decide +kernel
theorem dL_law_1389 : decode cL_law 1389 = .ok (.iload 4, 2) := by decide +kernel
theorem dL_law_1391 : decode cL_law 1391 = .ok (.iconst 1, 1) := by decide +kernel
theorem dL_law_1392 : decode cL_law 1392 = .ok (.iadd, 1) := by decide +kernel
theorem dL_law_1393 : decode cL_law 1393 = .ok (.iaload, 1) := by decide +kernel
theorem dL_law_1394 : decode cL_law 1394 = .ok (.invokevirtual 168, 3) := by decide +kernel
theorem dL_law_1397 : decode cL_law 1397 = .ok (.istore 6, 2) := by decide +kernel
theorem dL_law_1399 : decode cL_law 1399 = .ok (.aload_n 2, 1) := by decide +kernel
theorem dL_law_1400 : decode cL_law 1400 = .ok (.invokevirtual 98, 3) := by decide +kernel
theorem dL_law_1403 : decode cL_law 1403 = .ok (.iload 5, 2) := by decide +kernel
theorem dL_law_1405 : decode cL_law 1405 = .ok (.if_icmp .eq 5, 3) := by decide +kernel
theorem dL_law_1408 : decode cL_law 1408 = .ok (.iconst 0, 1) := by decide +kernel
theorem dL_law_1409 : decode cL_law 1409 = .ok (.ireturn, 1) := by decide +kernel
theorem dL_law_1410 : decode cL_law 1410 = .ok (.iload 5, 2) := by decide +kernel
theorem dL_law_1412 : decode cL_law 1412 = .ok (.ifCond .ne 15, 3) := by decide +kernel
theorem dL_law_1415 : decode cL_law 1415 = .ok (.aload_n 3, 1) := by decide +kernel
theorem dL_law_1416 : decode cL_law 1416 = .ok (.iconst 0, 1) := by decide +kernel
theorem dL_law_1417 : decode cL_law 1417 = .ok (.laload, 1) := by decide +kernel
theorem dL_law_1418 : decode cL_law 1418 = .ok (.iload 6, 2) := by decide +kernel
theorem dL_law_1420 : decode cL_law 1420 = .ok (.i2l, 1) := by decide +kernel
theorem dL_law_1421 : decode cL_law 1421 = .ok (.lcmp, 1) := by decide +kernel
theorem dL_law_1422 : decode cL_law 1422 = .ok (.ifCond .eq 5, 3) := by decide +kernel
theorem dL_law_1425 : decode cL_law 1425 = .ok (.iconst 0, 1) := by decide +kernel
theorem dL_law_1426 : decode cL_law 1426 = .ok (.ireturn, 1) := by decide +kernel
theorem dL_law_1427 : decode cL_law 1427 = .ok (.goto 278, 3) := by decide +kernel
theorem dL_law_1430 : decode cL_law 1430 = .ok (.aload_n 1, 1) := by decide +kernel
theorem dL_law_1431 : decode cL_law 1431 = .ok (.aload_n 0, 1) := by decide +kernel
theorem dL_law_1432 : decode cL_law 1432 = .ok (.iload 4, 2) := by decide +kernel
theorem dL_law_1434 : decode cL_law 1434 = .ok (.iconst 1, 1) := by decide +kernel
theorem dL_law_1435 : decode cL_law 1435 = .ok (.iadd, 1) := by decide +kernel
theorem dL_law_1436 : decode cL_law 1436 = .ok (.iaload, 1) := by decide +kernel
theorem dL_law_1437 : decode cL_law 1437 = .ok (.aload_n 3, 1) := by decide +kernel
theorem dL_law_1438 : decode cL_law 1438 = .ok (.invokestatic 169, 3) := by decide +kernel
theorem dL_law_1441 : decode cL_law 1441 = .ok (.istore 5, 2) := by decide +kernel
theorem dL_law_1443 : decode cL_law 1443 = .ok (.aload_n 2, 1) := by decide +kernel
theorem dL_law_1444 : decode cL_law 1444 = .ok (.aload_n 0, 1) := by decide +kernel
theorem dL_law_1445 : decode cL_law 1445 = .ok (.iload 4, 2) := by decide +kernel
theorem dL_law_1447 : decode cL_law 1447 = .ok (.iconst 1, 1) := by decide +kernel
theorem dL_law_1448 : decode cL_law 1448 = .ok (.iadd, 1) := by decide +kernel
theorem dL_law_1449 : decode cL_law 1449 = .ok (.iaload, 1) := by decide +kernel
theorem dL_law_1450 : decode cL_law 1450 = .ok (.invokevirtual 171, 3) := by decide +kernel
theorem dL_law_1453 : decode cL_law 1453 = .ok (.istore 6, 2) := by decide +kernel
theorem dL_law_1455 : decode cL_law 1455 = .ok (.aload_n 2, 1) := by decide +kernel
theorem dL_law_1456 : decode cL_law 1456 = .ok (.invokevirtual 98, 3) := by decide +kernel
theorem dL_law_1459 : decode cL_law 1459 = .ok (.iload 5, 2) := by decide +kernel
theorem dL_law_1461 : decode cL_law 1461 = .ok (.if_icmp .eq 5, 3) := by decide +kernel
theorem dL_law_1464 : decode cL_law 1464 = .ok (.iconst 0, 1) := by decide +kernel
theorem dL_law_1465 : decode cL_law 1465 = .ok (.ireturn, 1) := by decide +kernel
theorem dL_law_1466 : decode cL_law 1466 = .ok (.iload 5, 2) := by decide +kernel
theorem dL_law_1468 : decode cL_law 1468 = .ok (.ifCond .ne 15, 3) := by decide +kernel
theorem dL_law_1471 : decode cL_law 1471 = .ok (.aload_n 3, 1) := by decide +kernel
theorem dL_law_1472 : decode cL_law 1472 = .ok (.iconst 0, 1) := by decide +kernel
theorem dL_law_1473 : decode cL_law 1473 = .ok (.laload, 1) := by decide +kernel
theorem dL_law_1474 : decode cL_law 1474 = .ok (.iload 6, 2) := by decide +kernel
theorem dL_law_1476 : decode cL_law 1476 = .ok (.i2l, 1) := by decide +kernel
theorem dL_law_1477 : decode cL_law 1477 = .ok (.lcmp, 1) := by decide +kernel
theorem dL_law_1478 : decode cL_law 1478 = .ok (.ifCond .eq 5, 3) := by decide +kernel
theorem dL_law_1481 : decode cL_law 1481 = .ok (.iconst 0, 1) := by decide +kernel
theorem dL_law_1482 : decode cL_law 1482 = .ok (.ireturn, 1) := by decide +kernel
theorem dL_law_1483 : decode cL_law 1483 = .ok (.goto 222, 3) := by decide +kernel
theorem dL_law_1486 : decode cL_law 1486 = .ok (.aload_n 1, 1) := by decide +kernel
theorem dL_law_1487 : decode cL_law 1487 = .ok (.aload_n 0, 1) := by decide +kernel
theorem dL_law_1488 : decode cL_law 1488 = .ok (.iload 4, 2) := by decide +kernel
theorem dL_law_1490 : decode cL_law 1490 = .ok (.iconst 1, 1) := by decide +kernel
theorem dL_law_1491 : decode cL_law 1491 = .ok (.iadd, 1) := by decide +kernel
theorem dL_law_1492 : decode cL_law 1492 = .ok (.iaload, 1) := by decide +kernel
theorem dL_law_1493 : decode cL_law 1493 = .ok (.aload_n 3, 1) := by decide +kernel
theorem dL_law_1494 : decode cL_law 1494 = .ok (.invokestatic 172, 3) := by decide +kernel
theorem dL_law_1497 : decode cL_law 1497 = .ok (.istore 5, 2) := by decide +kernel
theorem dL_law_1499 : decode cL_law 1499 = .ok (.aload_n 2, 1) := by decide +kernel
theorem dL_law_1500 : decode cL_law 1500 = .ok (.aload_n 0, 1) := by decide +kernel
theorem dL_law_1501 : decode cL_law 1501 = .ok (.iload 4, 2) := by decide +kernel
theorem dL_law_1503 : decode cL_law 1503 = .ok (.iconst 1, 1) := by decide +kernel
theorem dL_law_1504 : decode cL_law 1504 = .ok (.iadd, 1) := by decide +kernel
theorem dL_law_1505 : decode cL_law 1505 = .ok (.iaload, 1) := by decide +kernel
theorem dL_law_1506 : decode cL_law 1506 = .ok (.invokevirtual 174, 3) := by decide +kernel
theorem dL_law_1509 : decode cL_law 1509 = .ok (.istore 6, 2) := by decide +kernel
theorem dL_law_1511 : decode cL_law 1511 = .ok (.aload_n 2, 1) := by decide +kernel
theorem dL_law_1512 : decode cL_law 1512 = .ok (.invokevirtual 98, 3) := by decide +kernel
theorem dL_law_1515 : decode cL_law 1515 = .ok (.iload 5, 2) := by decide +kernel
theorem dL_law_1517 : decode cL_law 1517 = .ok (.if_icmp .eq 5, 3) := by decide +kernel
theorem dL_law_1520 : decode cL_law 1520 = .ok (.iconst 0, 1) := by decide +kernel
theorem dL_law_1521 : decode cL_law 1521 = .ok (.ireturn, 1) := by decide +kernel
theorem dL_law_1522 : decode cL_law 1522 = .ok (.iload 5, 2) := by decide +kernel
theorem dL_law_1524 : decode cL_law 1524 = .ok (.ifCond .ne 15, 3) := by decide +kernel
theorem dL_law_1527 : decode cL_law 1527 = .ok (.aload_n 3, 1) := by decide +kernel
theorem dL_law_1528 : decode cL_law 1528 = .ok (.iconst 0, 1) := by decide +kernel
theorem dL_law_1529 : decode cL_law 1529 = .ok (.laload, 1) := by decide +kernel
theorem dL_law_1530 : decode cL_law 1530 = .ok (.iload 6, 2) := by decide +kernel
theorem dL_law_1532 : decode cL_law 1532 = .ok (.i2l, 1) := by decide +kernel
theorem dL_law_1533 : decode cL_law 1533 = .ok (.lcmp, 1) := by decide +kernel
theorem dL_law_1534 : decode cL_law 1534 = .ok (.ifCond .eq 5, 3) := by decide +kernel
theorem dL_law_1537 : decode cL_law 1537 = .ok (.iconst 0, 1) := by decide +kernel
theorem dL_law_1538 : decode cL_law 1538 = .ok (.ireturn, 1) := by decide +kernel
theorem dL_law_1539 : decode cL_law 1539 = .ok (.goto 166, 3) := by decide +kernel
theorem dL_law_1542 : decode cL_law 1542 = .ok (.aload_n 1, 1) := by decide +kernel
theorem dL_law_1543 : decode cL_law 1543 = .ok (.aload_n 0, 1) := by decide +kernel
theorem dL_law_1544 : decode cL_law 1544 = .ok (.iload 4, 2) := by decide +kernel
theorem dL_law_1546 : decode cL_law 1546 = .ok (.iconst 1, 1) := by decide +kernel
theorem dL_law_1547 : decode cL_law 1547 = .ok (.iadd, 1) := by decide +kernel
theorem dL_law_1548 : decode cL_law 1548 = .ok (.iaload, 1) := by decide +kernel
theorem dL_law_1549 : decode cL_law 1549 = .ok (.aload_n 3, 1) := by decide +kernel
theorem dL_law_1550 : decode cL_law 1550 = .ok (.invokestatic 175, 3) := by decide +kernel
theorem dL_law_1553 : decode cL_law 1553 = .ok (.istore 5, 2) := by decide +kernel
theorem dL_law_1555 : decode cL_law 1555 = .ok (.aload_n 2, 1) := by decide +kernel
theorem dL_law_1556 : decode cL_law 1556 = .ok (.aload_n 0, 1) := by decide +kernel
theorem dL_law_1557 : decode cL_law 1557 = .ok (.iload 4, 2) := by decide +kernel
theorem dL_law_1559 : decode cL_law 1559 = .ok (.iconst 1, 1) := by decide +kernel
theorem dL_law_1560 : decode cL_law 1560 = .ok (.iadd, 1) := by decide +kernel
theorem dL_law_1561 : decode cL_law 1561 = .ok (.iaload, 1) := by decide +kernel
theorem dL_law_1562 : decode cL_law 1562 = .ok (.invokevirtual 177, 3) := by decide +kernel
theorem dL_law_1565 : decode cL_law 1565 = .ok (.istore 6, 2) := by decide +kernel
theorem dL_law_1567 : decode cL_law 1567 = .ok (.aload_n 2, 1) := by decide +kernel
theorem dL_law_1568 : decode cL_law 1568 = .ok (.invokevirtual 98, 3) := by decide +kernel
theorem dL_law_1571 : decode cL_law 1571 = .ok (.iload 5, 2) := by decide +kernel
theorem dL_law_1573 : decode cL_law 1573 = .ok (.if_icmp .eq 5, 3) := by decide +kernel
theorem dL_law_1576 : decode cL_law 1576 = .ok (.iconst 0, 1) := by decide +kernel
theorem dL_law_1577 : decode cL_law 1577 = .ok (.ireturn, 1) := by decide +kernel
theorem dL_law_1578 : decode cL_law 1578 = .ok (.iload 5, 2) := by decide +kernel
theorem dL_law_1580 : decode cL_law 1580 = .ok (.ifCond .ne 15, 3) := by decide +kernel
theorem dL_law_1583 : decode cL_law 1583 = .ok (.aload_n 3, 1) := by decide +kernel
theorem dL_law_1584 : decode cL_law 1584 = .ok (.iconst 0, 1) := by decide +kernel
theorem dL_law_1585 : decode cL_law 1585 = .ok (.laload, 1) := by decide +kernel
theorem dL_law_1586 : decode cL_law 1586 = .ok (.iload 6, 2) := by decide +kernel
theorem dL_law_1588 : decode cL_law 1588 = .ok (.i2l, 1) := by decide +kernel
theorem dL_law_1589 : decode cL_law 1589 = .ok (.lcmp, 1) := by decide +kernel
theorem dL_law_1590 : decode cL_law 1590 = .ok (.ifCond .eq 5, 3) := by decide +kernel
theorem dL_law_1593 : decode cL_law 1593 = .ok (.iconst 0, 1) := by decide +kernel
theorem dL_law_1594 : decode cL_law 1594 = .ok (.ireturn, 1) := by decide +kernel
theorem dL_law_1595 : decode cL_law 1595 = .ok (.goto 110, 3) := by decide +kernel
theorem dL_law_1598 : decode cL_law 1598 = .ok (.aload_n 1, 1) := by decide +kernel
theorem dL_law_1599 : decode cL_law 1599 = .ok (.invokevirtual 178, 3) := by decide +kernel
theorem dL_law_1602 : decode cL_law 1602 = .ok (.aload_n 2, 1) := by decide +kernel
theorem dL_law_1603 : decode cL_law 1603 = .ok (.invokevirtual 181, 3) := by decide +kernel
theorem dL_law_1606 : decode cL_law 1606 = .ok (.if_icmp .eq 99, 3) := by decide +kernel
theorem dL_law_1609 : decode cL_law 1609 = .ok (.iconst 0, 1) := by decide +kernel
theorem dL_law_1610 : decode cL_law 1610 = .ok (.ireturn, 1) := by decide +kernel
theorem dL_law_1611 : decode cL_law 1611 = .ok (.aload_n 1, 1) := by decide +kernel
theorem dL_law_1612 : decode cL_law 1612 = .ok (.invokevirtual 182, 3) := by decide +kernel
theorem dL_law_1615 : decode cL_law 1615 = .ok (.aload_n 2, 1) := by decide +kernel
theorem dL_law_1616 : decode cL_law 1616 = .ok (.invokevirtual 185, 3) := by decide +kernel
theorem dL_law_1619 : decode cL_law 1619 = .ok (.if_icmp .eq 86, 3) := by decide +kernel
theorem dL_law_1622 : decode cL_law 1622 = .ok (.iconst 0, 1) := by decide +kernel
theorem dL_law_1623 : decode cL_law 1623 = .ok (.ireturn, 1) := by decide +kernel
theorem dL_law_1624 : decode cL_law 1624 = .ok (.aload_n 1, 1) := by decide +kernel
theorem dL_law_1625 : decode cL_law 1625 = .ok (.invokevirtual 186, 3) := by decide +kernel
theorem dL_law_1628 : decode cL_law 1628 = .ok (.aload_n 2, 1) := by decide +kernel
theorem dL_law_1629 : decode cL_law 1629 = .ok (.invokevirtual 189, 3) := by decide +kernel
theorem dL_law_1632 : decode cL_law 1632 = .ok (.if_icmp .eq 73, 3) := by decide +kernel
theorem dL_law_1635 : decode cL_law 1635 = .ok (.iconst 0, 1) := by decide +kernel
theorem dL_law_1636 : decode cL_law 1636 = .ok (.ireturn, 1) := by decide +kernel
theorem dL_law_1637 : decode cL_law 1637 = .ok (.aload_n 1, 1) := by decide +kernel
theorem dL_law_1638 : decode cL_law 1638 = .ok (.invokevirtual 190, 3) := by decide +kernel
theorem dL_law_1641 : decode cL_law 1641 = .ok (.aload_n 2, 1) := by decide +kernel
theorem dL_law_1642 : decode cL_law 1642 = .ok (.invokevirtual 193, 3) := by decide +kernel
theorem dL_law_1645 : decode cL_law 1645 = .ok (.if_icmp .eq 60, 3) := by decide +kernel
theorem dL_law_1648 : decode cL_law 1648 = .ok (.iconst 0, 1) := by decide +kernel
theorem dL_law_1649 : decode cL_law 1649 = .ok (.ireturn, 1) := by decide +kernel
theorem dL_law_1650 : decode cL_law 1650 = .ok (.aload_n 1, 1) := by decide +kernel
theorem dL_law_1651 : decode cL_law 1651 = .ok (.invokevirtual 194, 3) := by decide +kernel
theorem dL_law_1654 : decode cL_law 1654 = .ok (.dstore 5, 2) := by decide +kernel
theorem dL_law_1656 : decode cL_law 1656 = .ok (.aload_n 2, 1) := by decide +kernel
theorem dL_law_1657 : decode cL_law 1657 = .ok (.invokevirtual 198, 3) := by decide +kernel
theorem dL_law_1660 : decode cL_law 1660 = .ok (.dstore 7, 2) := by decide +kernel
theorem dL_law_1662 : decode cL_law 1662 = .ok (.dload 5, 2) := by decide +kernel
theorem dL_law_1664 : decode cL_law 1664 = .ok (.dload 7, 2) := by decide +kernel
theorem dL_law_1666 : decode cL_law 1666 = .ok (.dcmp .l, 1) := by decide +kernel
theorem dL_law_1667 : decode cL_law 1667 = .ok (.ifCond .eq 21, 3) := by decide +kernel
theorem dL_law_1670 : decode cL_law 1670 = .ok (.dload 5, 2) := by decide +kernel
theorem dL_law_1672 : decode cL_law 1672 = .ok (.dload 5, 2) := by decide +kernel
theorem dL_law_1674 : decode cL_law 1674 = .ok (.dcmp .l, 1) := by decide +kernel
theorem dL_law_1675 : decode cL_law 1675 = .ok (.ifCond .eq 11, 3) := by decide +kernel
theorem dL_law_1678 : decode cL_law 1678 = .ok (.dload 7, 2) := by decide +kernel
theorem dL_law_1680 : decode cL_law 1680 = .ok (.dload 7, 2) := by decide +kernel
theorem dL_law_1682 : decode cL_law 1682 = .ok (.dcmp .l, 1) := by decide +kernel
theorem dL_law_1683 : decode cL_law 1683 = .ok (.ifCond .ne 5, 3) := by decide +kernel
theorem dL_law_1686 : decode cL_law 1686 = .ok (.iconst 0, 1) := by decide +kernel
theorem dL_law_1687 : decode cL_law 1687 = .ok (.ireturn, 1) := by decide +kernel
theorem dL_law_1688 : decode cL_law 1688 = .ok (.goto 17, 3) := by decide +kernel
theorem dL_law_1691 : decode cL_law 1691 = .ok (.aload_n 1, 1) := by decide +kernel
theorem dL_law_1692 : decode cL_law 1692 = .ok (.invokevirtual 199, 3) := by decide +kernel
theorem dL_law_1695 : decode cL_law 1695 = .ok (.aload_n 2, 1) := by decide +kernel
theorem dL_law_1696 : decode cL_law 1696 = .ok (.invokevirtual 203, 3) := by decide +kernel
theorem dL_law_1699 : decode cL_law 1699 = .ok (.lcmp, 1) := by decide +kernel
theorem dL_law_1700 : decode cL_law 1700 = .ok (.ifCond .eq 5, 3) := by decide +kernel
theorem dL_law_1703 : decode cL_law 1703 = .ok (.iconst 0, 1) := by decide +kernel
theorem dL_law_1704 : decode cL_law 1704 = .ok (.ireturn, 1) := by decide +kernel
theorem dL_law_1705 : decode cL_law 1705 = .ok (.iinc 4 4, 3) := by decide +kernel
theorem dL_law_1708 : decode cL_law 1708 = .ok (.goto (-1685), 3) := by decide +kernel
theorem dL_law_1711 : decode cL_law 1711 = .ok (.iconst 1, 1) := by decide +kernel
theorem dL_law_1712 : decode cL_law 1712 = .ok (.ireturn, 1) := by decide +kernel
end
section
theorem dJxe99ae_isNaN_b9ae7_0 : decode cJxe99ae_isNaN_b9ae7 0 = .ok (.dload_n 0, 1) := by decide +kernel
theorem dJxe99ae_isNaN_b9ae7_1 : decode cJxe99ae_isNaN_b9ae7 1 = .ok (.dload_n 0, 1) := by decide +kernel
theorem dJxe99ae_isNaN_b9ae7_2 : decode cJxe99ae_isNaN_b9ae7 2 = .ok (.dcmp .l, 1) := by decide +kernel
theorem dJxe99ae_isNaN_b9ae7_3 : decode cJxe99ae_isNaN_b9ae7 3 = .ok (.ifCond .eq 7, 3) := by decide +kernel
theorem dJxe99ae_isNaN_b9ae7_6 : decode cJxe99ae_isNaN_b9ae7 6 = .ok (.iconst 1, 1) := by decide +kernel
theorem dJxe99ae_isNaN_b9ae7_7 : decode cJxe99ae_isNaN_b9ae7 7 = .ok (.goto 4, 3) := by decide +kernel
theorem dJxe99ae_isNaN_b9ae7_10 : decode cJxe99ae_isNaN_b9ae7 10 = .ok (.iconst 0, 1) := by decide +kernel
theorem dJxe99ae_isNaN_b9ae7_11 : decode cJxe99ae_isNaN_b9ae7 11 = .ok (.ireturn, 1) := by decide +kernel
theorem dJxe99ae_doubleToLongBits_ccdee_0 : decode cJxe99ae_doubleToLongBits_ccdee 0 = .ok (.dload_n 0, 1) := by decide +kernel
theorem dJxe99ae_doubleToLongBits_ccdee_1 : decode cJxe99ae_doubleToLongBits_ccdee 1 = .ok (.invokestatic 122, 3) := by decide +kernel
theorem dJxe99ae_doubleToLongBits_ccdee_4 : decode cJxe99ae_doubleToLongBits_ccdee 4 = .ok (.ifCond .ne 8, 3) := by decide +kernel
theorem dJxe99ae_doubleToLongBits_ccdee_7 : decode cJxe99ae_doubleToLongBits_ccdee 7 = .ok (.dload_n 0, 1) := by decide +kernel
theorem dJxe99ae_doubleToLongBits_ccdee_8 : decode cJxe99ae_doubleToLongBits_ccdee 8 = .ok (.invokestatic 134, 3) := by decide +kernel
theorem dJxe99ae_doubleToLongBits_ccdee_11 : decode cJxe99ae_doubleToLongBits_ccdee 11 = .ok (.lreturn, 1) := by decide +kernel
theorem dJxe99ae_doubleToLongBits_ccdee_12 : decode cJxe99ae_doubleToLongBits_ccdee 12 = .ok (.ldc2_w 137, 3) := by decide +kernel
theorem dJxe99ae_doubleToLongBits_ccdee_15 : decode cJxe99ae_doubleToLongBits_ccdee 15 = .ok (.lreturn, 1) := by decide +kernel
theorem dJ9_abs_0f7a4_0 : decode cJ9_abs_0f7a4 0 = .ok (.iload_n 0, 1) := by decide +kernel
theorem dJ9_abs_0f7a4_1 : decode cJ9_abs_0f7a4 1 = .ok (.ifCond .ge 8, 3) := by decide +kernel
theorem dJ9_abs_0f7a4_4 : decode cJ9_abs_0f7a4 4 = .ok (.iload_n 0, 1) := by decide +kernel
theorem dJ9_abs_0f7a4_5 : decode cJ9_abs_0f7a4 5 = .ok (.ineg, 1) := by decide +kernel
theorem dJ9_abs_0f7a4_6 : decode cJ9_abs_0f7a4 6 = .ok (.goto 4, 3) := by decide +kernel
theorem dJ9_abs_0f7a4_9 : decode cJ9_abs_0f7a4 9 = .ok (.iload_n 0, 1) := by decide +kernel
theorem dJ9_abs_0f7a4_10 : decode cJ9_abs_0f7a4 10 = .ok (.ireturn, 1) := by decide +kernel
theorem dJ9_max_7cf53_0 : decode cJ9_max_7cf53 0 = .ok (.iload_n 0, 1) := by decide +kernel
theorem dJ9_max_7cf53_1 : decode cJ9_max_7cf53 1 = .ok (.iload_n 1, 1) := by decide +kernel
theorem dJ9_max_7cf53_2 : decode cJ9_max_7cf53 2 = .ok (.if_icmp .lt 7, 3) := by decide +kernel
theorem dJ9_max_7cf53_5 : decode cJ9_max_7cf53 5 = .ok (.iload_n 0, 1) := by decide +kernel
theorem dJ9_max_7cf53_6 : decode cJ9_max_7cf53 6 = .ok (.goto 4, 3) := by decide +kernel
theorem dJ9_max_7cf53_9 : decode cJ9_max_7cf53 9 = .ok (.iload_n 1, 1) := by decide +kernel
theorem dJ9_max_7cf53_10 : decode cJ9_max_7cf53 10 = .ok (.ireturn, 1) := by decide +kernel
theorem dJ9_min_7cf53_0 : decode cJ9_min_7cf53 0 = .ok (.iload_n 0, 1) := by decide +kernel
theorem dJ9_min_7cf53_1 : decode cJ9_min_7cf53 1 = .ok (.iload_n 1, 1) := by decide +kernel
theorem dJ9_min_7cf53_2 : decode cJ9_min_7cf53 2 = .ok (.if_icmp .gt 7, 3) := by decide +kernel
theorem dJ9_min_7cf53_5 : decode cJ9_min_7cf53 5 = .ok (.iload_n 0, 1) := by decide +kernel
theorem dJ9_min_7cf53_6 : decode cJ9_min_7cf53 6 = .ok (.goto 4, 3) := by decide +kernel
theorem dJ9_min_7cf53_9 : decode cJ9_min_7cf53 9 = .ok (.iload_n 1, 1) := by decide +kernel
theorem dJ9_min_7cf53_10 : decode cJ9_min_7cf53 10 = .ok (.ireturn, 1) := by decide +kernel
theorem dJ7_copyOf_59c91_0 : decode cJ7_copyOf_59c91 0 = .ok (.iload_n 1, 1) := by decide +kernel
theorem dJ7_copyOf_59c91_1 : decode cJ7_copyOf_59c91 1 = .ok (.aload_n 0, 1) := by decide +kernel
theorem dJ7_copyOf_59c91_2 : decode cJ7_copyOf_59c91 2 = .ok (.arraylength, 1) := by decide +kernel
theorem dJ7_copyOf_59c91_3 : decode cJ7_copyOf_59c91 3 = .ok (.if_icmp .ne 11, 3) := by decide +kernel
theorem dJ7_copyOf_59c91_6 : decode cJ7_copyOf_59c91 6 = .ok (.aload_n 0, 1) := by decide +kernel
theorem dJ7_copyOf_59c91_7 : decode cJ7_copyOf_59c91 7 = .ok (.invokevirtual 316, 3) := by decide +kernel
theorem dJ7_copyOf_59c91_10 : decode cJ7_copyOf_59c91 10 = .ok (.checkcast 317, 3) := by decide +kernel
theorem dJ7_copyOf_59c91_13 : decode cJ7_copyOf_59c91 13 = .ok (.areturn, 1) := by decide +kernel
theorem dJ7_copyOf_59c91_14 : decode cJ7_copyOf_59c91 14 = .ok (.iload_n 1, 1) := by decide +kernel
theorem dJ7_copyOf_59c91_15 : decode cJ7_copyOf_59c91 15 = .ok (.newarray .int, 2) := by decide +kernel
theorem dJ7_copyOf_59c91_17 : decode cJ7_copyOf_59c91 17 = .ok (.astore_n 2, 1) := by decide +kernel
theorem dJ7_copyOf_59c91_18 : decode cJ7_copyOf_59c91 18 = .ok (.aload_n 0, 1) := by decide +kernel
theorem dJ7_copyOf_59c91_19 : decode cJ7_copyOf_59c91 19 = .ok (.iconst 0, 1) := by decide +kernel
theorem dJ7_copyOf_59c91_20 : decode cJ7_copyOf_59c91 20 = .ok (.aload_n 2, 1) := by decide +kernel
theorem dJ7_copyOf_59c91_21 : decode cJ7_copyOf_59c91 21 = .ok (.iconst 0, 1) := by decide +kernel
theorem dJ7_copyOf_59c91_22 : decode cJ7_copyOf_59c91 22 = .ok (.aload_n 0, 1) := by decide +kernel
theorem dJ7_copyOf_59c91_23 : decode cJ7_copyOf_59c91 23 = .ok (.arraylength, 1) := by decide +kernel
theorem dJ7_copyOf_59c91_24 : decode cJ7_copyOf_59c91 24 = .ok (.iload_n 1, 1) := by decide +kernel
theorem dJ7_copyOf_59c91_25 : decode cJ7_copyOf_59c91 25 = .ok (.invokestatic 304, 3) := by decide +kernel
theorem dJ7_copyOf_59c91_28 : decode cJ7_copyOf_59c91 28 = .ok (.invokestatic 150, 3) := by decide +kernel
theorem dJ7_copyOf_59c91_31 : decode cJ7_copyOf_59c91 31 = .ok (.aload_n 2, 1) := by decide +kernel
theorem dJ7_copyOf_59c91_32 : decode cJ7_copyOf_59c91 32 = .ok (.areturn, 1) := by decide +kernel
end
section
/-! THE WALK IN WORDS OF OUR OWN: an abstract heap (a function from addresses to cells), a judgement zV ("from pc, with these locals, this stack, this heap, the method ends, and Q holds of its outcome and its heap"), a method's contract zM, and a row an instruction, each out of the kit's rows. -/
abbrev zCE : Type := (Nat × vp_A) ⊕ (Nat × List Value)
abbrev zHM : Type := Nat → Option zCE
abbrev zH : Type := zHM × Nat × Nat
abbrev zOut : Type := Option Value ⊕ String
/-- the world: the launch, the classes' numbers, the array classes' numbers, the first address of ours, the two static arrays -/
abbrev zW : Type := Launch × va_G × (Nat → ClassId) × Nat × Nat × Nat
def zE (K : Nat → ClassId) (e : zCE) : va_E := match e with
  | .inl x => .inl (K x.1, x.2)
  | .inr o => .inr o
def zup (f : zHM) (a : Nat) (e : zCE) : zHM := fun q => if q = a then some e else f q
theorem zup_at (f : zHM) (a : Nat) (e : zCE) : zup f a e a = some e := if_pos rfl
theorem zup_ne {f : zHM} {a q : Nat} {e : zCE} (h : q ≠ a) : zup f a e q = f q := if_neg h
abbrev zCL : List vw_C := [(RX0, TX0, 2), (RX1, TX1, 19), (RX2, TX2, 2), (RX3, TX3, 7), (RX4, TX4, 16)]
def ztys (K : Nat → ClassId) : List (ClassId × FieldType) := [(K 0, .int), (K 1, .long), (K 2, .boolean), (K 3, .char), (K 4, .object "RingThreads$Line"), (K 5, .object "RingThreads$Ring")]
def GT : List Cond := lw_tbl.filter goodWord
theorem GT_in {w : Cond} (h : w ∈ lw_tbl) (hg : goodWord w = true) : w ∈ GT := List.mem_filter.mpr ⟨h, hg⟩
theorem GT_good {w : Cond} (h : w ∈ GT) : goodWord w = true := (List.mem_filter.mp h).2
def zA (G : zW) : Nat → Prop := fun q => G.2.2.2.1 ≤ q
def zAR : List Int32 := [60, 58, 52, 42, 30, 16, 0, -16, -30, -42, -52, -58, -60, -58, -52, -42, -30, -16, 0, 16, 30, 42, 52, 58]
def zMS : List Int32 := [6, 9, 9]
def zSTR : List (Nat × String) := [(47, "4, 6, 8, 12 or 24 nails"), (84, "the spool is in use"), (93, "it is the spool of now"), (113, "200 chords lie"), (127, "no chord lies"), (158, "the buffer is full"), (171, "the buffer tells no face"), (181, "no snapshot is in the slot"), (190, "no state is saved"), (216, "out of range"), (324, "no such nail"), (327, "no such spool"), (329, "no such setting"), (331, "no such square")]
def zEXC : List String := ["java/lang/IllegalArgumentException", "java/lang/IllegalStateException", "java/lang/IndexOutOfBoundsException"]
/-- what stays true of the tables and the statics -/
def zG (G : zW) (U : State) (H : Heap) : Prop :=
  G.1.stackTraces = false ∧ va_K G.2.1 zCL (ztys G.2.2.1) U ∧
  (va_Z "RingThreads" "AROUND" "[I" (.ref G.2.2.2.2.1) (zA G) U H ∧ va_T .int G.2.2.2.2.1 24 (fun j => .int (zAR.getD j 0)) (zA G) U H) ∧
  (va_Z "RingThreads" "MOST_SETTING" "[I" (.ref G.2.2.2.2.2) (zA G) U H ∧ va_T .int G.2.2.2.2.2 3 (fun j => .int (zMS.getD j 0)) (zA G) U H) ∧
  vx_Zq Bundle.tN "UNASSIGNED_STACK" Bundle.steD (zA G) U H ∧ vx_Zq Bundle.tN "SUPPRESSED_SENTINEL" Bundle.listD (zA G) U H ∧
  (∀ q ∈ zSTR, ∃ sa, vk_R "RingThreads" q.1 q.2 sa U) ∧
  va_Nw (.fieldLinkNest "RingThreads$Line" 19 "RingThreads" "AROUND" "[I" "RingThreads") U ∧ va_Nw (.methodLinkNest "RingThreads" 15 yX2_init "RingThreads") U ∧
  (∀ X ∈ zEXC, va_Nw (.castable X X) U) ∧ (∀ X ∈ zEXC, ∀ Y ∈ zEXC, X ≠ Y → va_Nc X Y U)
theorem zG.moved {G : zW} {s U : State} {H : Heap} (hW : s.WarmedH U.vm) (h : zG G s H) : zG G U H := by
  obtain ⟨h0, h1, ⟨h2, h3⟩, ⟨h4, h5⟩, h6, h7, h8, h9, h10, h11, h12⟩ := h
  exact ⟨h0, va_K.moved hW.alike h1, ⟨va_Z.moved hW.alike h2, va_T.moved hW.alike h3⟩, ⟨va_Z.moved hW.alike h4, va_T.moved hW.alike h5⟩, vx_Zq.moved hW.alike h6, vx_Zq.moved hW.alike h7, fun q hq => by obtain ⟨sa, h⟩ := h8 q hq; exact ⟨sa, vk_R.warm hW h⟩, va_Nw.warmF hW h9, va_Nw.warmM hW h10, fun X hX => va_Nw.warmC hW (h11 X hX), fun X hX Y hY hn => va_Nc.moved hW.alike (h12 X hX Y hY hn)⟩
theorem zG.kept {G : zW} {U : State} {H H1 : Heap} (hq : ∀ a : Nat, a < H.size → ¬ zA G a → H1[a]? = H[a]?) (h : zG G U H) : zG G U H1 := by
  obtain ⟨h0, h1, ⟨h2, h3⟩, ⟨h4, h5⟩, h6, h7, h8, h9, h10, h11, h12⟩ := h
  exact ⟨h0, h1, ⟨va_Z.kept h2 hq, va_T.kept h3 hq⟩, ⟨va_Z.kept h4 hq, va_T.kept h5 hq⟩, vx_Zq.kept h6 hq, vx_Zq.kept h7 hq, h8, h9, h10, h11, h12⟩
/-- the abstract heap lies in the heap -/
def zR (G : zW) (f : zHM) (H : Heap) : Prop := ∃ ws : va_W, (∀ a e, f a = some e → ∃ k : Nat, ws[k]? = some (a, zE G.2.2.1 e)) ∧ va_P G.2.1 zCL ws H ∧ va_D (zA G) ws
def zcap (h : zH) : Prop := h.2.1 ≤ 50000 ∧ h.2.2 ≤ 600000
def zroom (d : Nat) : Room := { frames := d, cells := 50000 * (d + 1), slots := 600000 * (d + 1), locals := 34 * d }
/-- how a method ends: it returns .. -/
def zQ (G : zW) (Q : zOut → zH → Prop) (n0 z0 : Nat) : Array Value → State → Outcome → State → Prop := fun _ st o t =>
  ∃ (v : Option Value) (h : zH) (k n : Nat) (L : List Loc), o = .returned v ∧ Q (.inl v) h ∧ zR G h.1 t.heap ∧ h.2.1 = n0 + k ∧ h.2.2 = z0 + n ∧ zcap h ∧ st.sameButNew ({ t with vm := st.vm } : State) L k n ∧ (∀ q ∈ L, zA G q.base) ∧ va_F (zA G) st t
/-- .. or throws -/
def zX (G : zW) (Q : zOut → zH → Prop) (n0 z0 : Nat) : String → State → State → Prop := fun E st t =>
  ∃ (h : zH) (k n : Nat) (L : List Loc), Q (.inr E) h ∧ zR G h.1 t.heap ∧ h.2.1 = n0 + k ∧ h.2.2 = z0 + n ∧ zcap h ∧ st.sameButNew ({ t with vm := st.vm } : State) L k n ∧ (∀ q ∈ L, zA G q.base) ∧ va_F (zA G) st t
def zC (G : zW) (y : MethodName) (cc : ByteArray) (nL : Nat) (ret : Option FieldType) (d : Nat) (p : Program) (R : Room) (s : State) (m : MethodId) (args : Array Value) (meth : Method) (c : Code) : Prop :=
  p.tables.exec = Jvm.exec ∧ c.code = cc ∧ c.maxLocals = nL ∧ s.vm.findClass y.cls = some m.cls ∧ meth.sig.returnType = ret ∧ meth.locks = false ∧ meth.name = y.name ∧ (∀ x ∈ c.exceptionTable.toList, False) ∧ (∀ w ∈ GT, w.before args s = true) ∧ R = zroom d ∧ zG G s s.heap ∧ G.2.2.2.1 ≤ s.heap.size
def zV (G : zW) (y : MethodName) (cc : ByteArray) (nL : Nat) (ret : Option FieldType) (d : Nat) (pc : Nat) (lv : List (Nat × Value)) (st : List Value) (h : zH) (Q : zOut → zH → Prop) : Prop :=
  ∀ (p : Program) (e : Env) (R : Room) (s : State) (m : MethodId) (args : Array Value) (below : List Frame) (meth : Method) (c : Code) (H : Heap) (locs : List Loc) (cells slots n0 z0 : Nat) (ls : Array Slot),
    zC G y cc nL ret d p R s m args meth c → h.2.1 = n0 + cells → h.2.2 = z0 + slots → zcap h → zR G h.1 H → va_S (zA G) s.heap H locs → lv_has ls nL lv →
    W p G.1 e R s m args below meth c H locs cells slots (vx_MQ below (zQ G Q n0 z0) (zX G Q n0 z0) args s (50000 * (d + 1)) (600000 * (d + 1)) (zA G)) (F0 m pc ls st)
/-- a method's contract -/
def zPc (G : zW) (as : List Value) (h : zH) : Array Value → State → Prop := fun a U => a = as.toArray ∧ zG G U U.heap ∧ zR G h.1 U.heap ∧ zcap h ∧ G.2.2.2.1 ≤ U.heap.size
def zM (G : zW) (y : MethodName) (cc : ByteArray) (nL : Nat) (ret : Option FieldType) (d : Nat) (as : List Value) (h : zH) (Q : zOut → zH → Prop) : Prop :=
  vx_Met G.1 y (.code y cc nL ret :: GT) (zroom d) (zPc G as h) (zQ G Q h.2.1 h.2.2) (zX G Q h.2.1 h.2.2) (50000 * (d + 1)) (600000 * (d + 1)) (zA G)
def zlk : List (Nat × Value) → Nat → Option Value
  | [], _ => none
  | q :: r, i => bif q.1 == i then some q.2 else zlk r i
theorem zlk_mem : ∀ {lv : List (Nat × Value)} {i : Nat} {v : Value}, zlk lv i = some v → (i, v) ∈ lv
  | [], i, v, h => by cases h
  | q :: r, i, v, h => by
    unfold zlk at h
    cases hq : q.1 == i with
    | true =>
      rw [hq] at h
      have e1 : q.1 = i := eq_of_beq hq
      have e2 : q.2 = v := Option.some.inj h
      rw [← e1, ← e2]; exact List.mem_cons_self
    | false =>
      rw [hq] at h
      exact List.mem_cons_of_mem _ (zlk_mem h)
theorem zlk_at {ls : Array Slot} {nL : Nat} {lv : List (Nat × Value)} {i : Nat} {v : Value} (h : lv_has ls nL lv) (hk : zlk lv i = some v) : ls[i]? = some (.val v) := h.2.2 (i, v) (zlk_mem hk)
def zst1 (lv : List (Nat × Value)) (i : Nat) (v : Value) : List (Nat × Value) := (i, v) :: lv.filter (fun q => !(q.1 == i) && !(q.1 + 1 == i && q.2.category == 2))
def zst2 (lv : List (Nat × Value)) (i : Nat) (v : Value) : List (Nat × Value) := (i, v) :: lv.filter (fun q => !(q.1 == i) && (!(q.1 == i + 1) && !(q.1 + 1 == i && q.2.category == 2)))
def zsub (lv : List (Nat × Value)) : List (Nat × Value) → Prop
  | [] => True
  | q :: r => zlk lv q.1 = some q.2 ∧ zsub lv r
theorem zsub_mem {lv : List (Nat × Value)} : ∀ {l : List (Nat × Value)}, zsub lv l → ∀ q ∈ l, q ∈ lv
  | [], _, q, h => by cases h
  | x :: r, hs, q, h => by
    rcases List.mem_cons.mp h with rfl | h
    · exact zlk_mem hs.1
    · exact zsub_mem hs.2 q h
/-- the world's relation is not touched by what is forgotten -/
theorem zR.at {G : zW} {f : zHM} {H : Heap} (h : zR G f H) {a : Nat} {e : zCE} (ha : f a = some e) : ∃ ws : va_W, (∀ a e, f a = some e → ∃ k : Nat, ws[k]? = some (a, zE G.2.2.1 e)) ∧ va_P G.2.1 zCL ws H ∧ va_D (zA G) ws ∧ ∃ k : Nat, ws[k]? = some (a, zE G.2.2.1 e) := by
  obtain ⟨ws, h1, h2, h3⟩ := h
  exact ⟨ws, h1, h2, h3, h1 a e ha⟩
theorem zR.put {G : zW} {f : zHM} {ws : va_W} {a k0 : Nat} {e0 : va_E} {e : zCE} (h1 : ∀ a e, f a = some e → ∃ k : Nat, ws[k]? = some (a, zE G.2.2.1 e)) (hk : ws[k0]? = some (a, e0)) (b : Nat) (x : zCE) (hb : zup f a e b = some x) : ∃ k : Nat, (ws.set k0 (a, zE G.2.2.1 e))[k]? = some (b, zE G.2.2.1 x) := by
  have hlt : k0 < ws.length := (List.getElem?_eq_some_iff.mp hk).1
  by_cases hba : b = a
  · subst hba
    rw [zup_at] at hb
    cases hb
    exact ⟨k0, by rw [List.getElem?_set]; simp [hlt]⟩
  · rw [zup_ne hba] at hb
    obtain ⟨k, hk1⟩ := h1 b x hb
    refine ⟨k, ?_⟩
    rw [List.getElem?_set]
    by_cases hkk : k0 = k
    · subst hkk
      rw [hk] at hk1
      have := (Prod.mk.inj (Option.some.inj hk1)).1
      exact absurd this.symm hba
    · rw [if_neg hkk]; exact hk1
theorem zR.lt {G : zW} {f : zHM} {H : Heap} (h : zR G f H) {a : Nat} {e : zCE} (ha : f a = some e) : a < H.size := by
  obtain ⟨ws, h1, h2, h3, k, hk⟩ := h.at ha
  exact (h2 k _ hk).lt
theorem W.mono {p : Program} {l : Launch} {e : Env} {R : Room} {s : State} {m : MethodId} {args : Array Value} {below : List Frame} {meth : Method} {c : Code} {H : Heap} {locs : List Loc} {cells slots : Nat} {Q Q' : State → Prop} {g : JFrame} (hq : ∀ t, Q t → Q' t) (k : W p l e R s m args below meth c H locs cells slots Q g) : W p l e R s m args below meth c H locs cells slots Q' g := by
  intro T hT X
  obtain ⟨t, a, b⟩ := k T hT X
  exact ⟨t, a, hq t b⟩
section ZROWS
variable {G : zW} {y : MethodName} {cc : ByteArray} {nL : Nat} {ret : Option FieldType} {d : Nat} {pc : Nat} {lv : List (Nat × Value)} {st : List Value} {h : zH} {Q : zOut → zH → Prop}
theorem v_loc {lv' : List (Nat × Value)} (hs : zsub lv lv') (k : zV G y cc nL ret d pc lv' st h Q) : zV G y cc nL ret d pc lv st h Q := fun p e R s m args below meth c H locs cells slots n0 z0 ls C h1 h2 h3 h4 h5 h6 =>
  k p e R s m args below meth c H locs cells slots n0 z0 ls C h1 h2 h3 h4 h5 ⟨h6.1, h6.2.1, fun q hq => h6.2.2 q (zsub_mem hs q hq)⟩
theorem v_mono {Q' : zOut → zH → Prop} (hq : ∀ o h, Q o h → Q' o h) (k : zV G y cc nL ret d pc lv st h Q) : zV G y cc nL ret d pc lv st h Q' := fun p e R s m args below meth c H locs cells slots n0 z0 ls C h1 h2 h3 h4 h5 h6 => by
  refine W.mono ?_ (k p e R s m args below meth c H locs cells slots n0 z0 ls C h1 h2 h3 h4 h5 h6)
  rintro t ⟨o, a1, a2, ⟨⟨v, h9, k9, n9, L, b1, b2, b3⟩, b4⟩ | ⟨q, b1, E, ce, L, ⟨h9, k9, n9, L9, c1, c2⟩, b2⟩⟩
  · exact ⟨o, a1, a2, Or.inl ⟨⟨v, h9, k9, n9, L, b1, hq _ _ b2, b3⟩, b4⟩⟩
  · exact ⟨o, a1, a2, Or.inr ⟨q, b1, E, ce, L, ⟨h9, k9, n9, L9, hq _ _ c1, c2⟩, b2⟩⟩
theorem v_iconst {n : Int} (v : Int32) (hd : decode cc pc = .ok (.iconst n, 1)) (hv : Int32.ofInt n = v) (k : zV G y cc nL ret d (pc + 1) lv (.int v :: st) h Q) : zV G y cc nL ret d pc lv st h Q := fun p e R s m args below meth c H locs cells slots n0 z0 ls C h1 h2 h3 h4 h5 h6 => lv_iconst C.1 C.2.1 hd hv (k p e R s m args below meth c H locs cells slots n0 z0 ls C h1 h2 h3 h4 h5 h6)
theorem v_bipush {n : Int} (v : Int32) (hd : decode cc pc = .ok (.bipush n, 2)) (hv : (Int8.ofInt n).toInt32 = v) (k : zV G y cc nL ret d (pc + 2) lv (.int v :: st) h Q) : zV G y cc nL ret d pc lv st h Q := fun p e R s m args below meth c H locs cells slots n0 z0 ls C h1 h2 h3 h4 h5 h6 => lv_bipush C.1 C.2.1 hd hv (k p e R s m args below meth c H locs cells slots n0 z0 ls C h1 h2 h3 h4 h5 h6)
theorem v_sipush {n : Int} (v : Int32) (hd : decode cc pc = .ok (.sipush n, 3)) (hv : (Int16.ofInt n).toInt32 = v) (k : zV G y cc nL ret d (pc + 3) lv (.int v :: st) h Q) : zV G y cc nL ret d pc lv st h Q := fun p e R s m args below meth c H locs cells slots n0 z0 ls C h1 h2 h3 h4 h5 h6 => lv_sipush C.1 C.2.1 hd hv (k p e R s m args below meth c H locs cells slots n0 z0 ls C h1 h2 h3 h4 h5 h6)
theorem v_lconst {n : Fin 2} (v : Int64) (hd : decode cc pc = .ok (.lconst n, 1)) (hv : Int64.ofNat n = v) (k : zV G y cc nL ret d (pc + 1) lv (.long v :: st) h Q) : zV G y cc nL ret d pc lv st h Q := fun p e R s m args below meth c H locs cells slots n0 z0 ls C h1 h2 h3 h4 h5 h6 => lv_lconst C.1 C.2.1 hd hv (k p e R s m args below meth c H locs cells slots n0 z0 ls C h1 h2 h3 h4 h5 h6)
theorem v_dconst0  (hd : decode cc pc = .ok (.dconst 0, 1)) (k : zV G y cc nL ret d (pc + 1) lv (.double 0 :: st) h Q) : zV G y cc nL ret d pc lv st h Q := fun p e R s m args below meth c H locs cells slots n0 z0 ls C h1 h2 h3 h4 h5 h6 => lv_dconst0 C.1 C.2.1 hd (k p e R s m args below meth c H locs cells slots n0 z0 ls C h1 h2 h3 h4 h5 h6)
theorem v_dconst1  (hd : decode cc pc = .ok (.dconst 1, 1)) (k : zV G y cc nL ret d (pc + 1) lv (.double 4607182418800017408 :: st) h Q) : zV G y cc nL ret d pc lv st h Q := fun p e R s m args below meth c H locs cells slots n0 z0 ls C h1 h2 h3 h4 h5 h6 => lv_dconst1 C.1 C.2.1 hd (k p e R s m args below meth c H locs cells slots n0 z0 ls C h1 h2 h3 h4 h5 h6)
theorem v_null  (hd : decode cc pc = .ok (.aconst_null, 1)) (k : zV G y cc nL ret d (pc + 1) lv (.null :: st) h Q) : zV G y cc nL ret d pc lv st h Q := fun p e R s m args below meth c H locs cells slots n0 z0 ls C h1 h2 h3 h4 h5 h6 => lv_null C.1 C.2.1 hd (k p e R s m args below meth c H locs cells slots n0 z0 ls C h1 h2 h3 h4 h5 h6)
theorem v_iload_n {i : Nat} {j : Fin 4} {x : Int32} (hd : decode cc pc = .ok (.iload_n j, 1)) (hi : (j : Nat) = i) (hl : zlk lv i = some (.int x)) (k : zV G y cc nL ret d (pc + 1) lv (.int x :: st) h Q) : zV G y cc nL ret d pc lv st h Q := fun p e R s m args below meth c H locs cells slots n0 z0 ls C h1 h2 h3 h4 h5 h6 => lv_iload_n C.1 C.2.1 hd hi (zlk_at h6 hl) (k p e R s m args below meth c H locs cells slots n0 z0 ls C h1 h2 h3 h4 h5 h6)
theorem v_iload {i : Nat} {x : Int32} (hd : decode cc pc = .ok (.iload i, 2)) (hl : zlk lv i = some (.int x)) (k : zV G y cc nL ret d (pc + 2) lv (.int x :: st) h Q) : zV G y cc nL ret d pc lv st h Q := fun p e R s m args below meth c H locs cells slots n0 z0 ls C h1 h2 h3 h4 h5 h6 => lv_iload C.1 C.2.1 hd (zlk_at h6 hl) (k p e R s m args below meth c H locs cells slots n0 z0 ls C h1 h2 h3 h4 h5 h6)
theorem v_lload_n {i : Nat} {j : Fin 4} {x : Int64} (hd : decode cc pc = .ok (.lload_n j, 1)) (hi : (j : Nat) = i) (hl : zlk lv i = some (.long x)) (k : zV G y cc nL ret d (pc + 1) lv (.long x :: st) h Q) : zV G y cc nL ret d pc lv st h Q := fun p e R s m args below meth c H locs cells slots n0 z0 ls C h1 h2 h3 h4 h5 h6 => lv_lload_n C.1 C.2.1 hd hi (zlk_at h6 hl) (k p e R s m args below meth c H locs cells slots n0 z0 ls C h1 h2 h3 h4 h5 h6)
theorem v_lload {i : Nat} {x : Int64} (hd : decode cc pc = .ok (.lload i, 2)) (hl : zlk lv i = some (.long x)) (k : zV G y cc nL ret d (pc + 2) lv (.long x :: st) h Q) : zV G y cc nL ret d pc lv st h Q := fun p e R s m args below meth c H locs cells slots n0 z0 ls C h1 h2 h3 h4 h5 h6 => lv_lload C.1 C.2.1 hd (zlk_at h6 hl) (k p e R s m args below meth c H locs cells slots n0 z0 ls C h1 h2 h3 h4 h5 h6)
theorem v_dload_n {i : Nat} {j : Fin 4} {x : UInt64} (hd : decode cc pc = .ok (.dload_n j, 1)) (hi : (j : Nat) = i) (hl : zlk lv i = some (.double x)) (k : zV G y cc nL ret d (pc + 1) lv (.double x :: st) h Q) : zV G y cc nL ret d pc lv st h Q := fun p e R s m args below meth c H locs cells slots n0 z0 ls C h1 h2 h3 h4 h5 h6 => lv_dload_n C.1 C.2.1 hd hi (zlk_at h6 hl) (k p e R s m args below meth c H locs cells slots n0 z0 ls C h1 h2 h3 h4 h5 h6)
theorem v_dload {i : Nat} {x : UInt64} (hd : decode cc pc = .ok (.dload i, 2)) (hl : zlk lv i = some (.double x)) (k : zV G y cc nL ret d (pc + 2) lv (.double x :: st) h Q) : zV G y cc nL ret d pc lv st h Q := fun p e R s m args below meth c H locs cells slots n0 z0 ls C h1 h2 h3 h4 h5 h6 => lv_dload C.1 C.2.1 hd (zlk_at h6 hl) (k p e R s m args below meth c H locs cells slots n0 z0 ls C h1 h2 h3 h4 h5 h6)
theorem v_aload_n {i : Nat} {j : Fin 4} {x : Nat} (hd : decode cc pc = .ok (.aload_n j, 1)) (hi : (j : Nat) = i) (hl : zlk lv i = some (.ref x)) (k : zV G y cc nL ret d (pc + 1) lv (.ref x :: st) h Q) : zV G y cc nL ret d pc lv st h Q := fun p e R s m args below meth c H locs cells slots n0 z0 ls C h1 h2 h3 h4 h5 h6 => lv_aload_n C.1 C.2.1 hd hi (zlk_at h6 hl) (k p e R s m args below meth c H locs cells slots n0 z0 ls C h1 h2 h3 h4 h5 h6)
theorem v_aload {i : Nat} {x : Nat} (hd : decode cc pc = .ok (.aload i, 2)) (hl : zlk lv i = some (.ref x)) (k : zV G y cc nL ret d (pc + 2) lv (.ref x :: st) h Q) : zV G y cc nL ret d pc lv st h Q := fun p e R s m args below meth c H locs cells slots n0 z0 ls C h1 h2 h3 h4 h5 h6 => lv_aload C.1 C.2.1 hd (zlk_at h6 hl) (k p e R s m args below meth c H locs cells slots n0 z0 ls C h1 h2 h3 h4 h5 h6)
theorem v_aload_nN {i : Nat} {j : Fin 4} (hd : decode cc pc = .ok (.aload_n j, 1)) (hi : (j : Nat) = i) (hl : zlk lv i = some .null) (k : zV G y cc nL ret d (pc + 1) lv (.null :: st) h Q) : zV G y cc nL ret d pc lv st h Q := fun p e R s m args below meth c H locs cells slots n0 z0 ls C h1 h2 h3 h4 h5 h6 => lv_aload_nN C.1 C.2.1 hd hi (zlk_at h6 hl) (k p e R s m args below meth c H locs cells slots n0 z0 ls C h1 h2 h3 h4 h5 h6)
theorem v_aloadN {i : Nat} (hd : decode cc pc = .ok (.aload i, 2)) (hl : zlk lv i = some .null) (k : zV G y cc nL ret d (pc + 2) lv (.null :: st) h Q) : zV G y cc nL ret d pc lv st h Q := fun p e R s m args below meth c H locs cells slots n0 z0 ls C h1 h2 h3 h4 h5 h6 => lv_aloadN C.1 C.2.1 hd (zlk_at h6 hl) (k p e R s m args below meth c H locs cells slots n0 z0 ls C h1 h2 h3 h4 h5 h6)
theorem v_istore_n {i : Nat} {j : Fin 4} {x : Int32} (hd : decode cc pc = .ok (.istore_n j, 1)) (hi : (j : Nat) = i) (hn : i < nL) (k : zV G y cc nL ret d (pc + 1) (zst1 lv i (.int x)) st h Q) : zV G y cc nL ret d pc lv (.int x :: st) h Q := fun p e R s m args below meth c H locs cells slots n0 z0 ls C h1 h2 h3 h4 h5 h6 => lv_istore_n C.1 C.2.1 hd hi h6 hn rfl (fun ls9 h9 => k p e R s m args below meth c H locs cells slots n0 z0 ls9 C h1 h2 h3 h4 h5 h9)
theorem v_istore {i : Nat} {x : Int32} (hd : decode cc pc = .ok (.istore i, 2)) (hn : i < nL) (k : zV G y cc nL ret d (pc + 2) (zst1 lv i (.int x)) st h Q) : zV G y cc nL ret d pc lv (.int x :: st) h Q := fun p e R s m args below meth c H locs cells slots n0 z0 ls C h1 h2 h3 h4 h5 h6 => lv_istore C.1 C.2.1 hd h6 hn rfl (fun ls9 h9 => k p e R s m args below meth c H locs cells slots n0 z0 ls9 C h1 h2 h3 h4 h5 h9)
theorem v_lstore_n {i : Nat} {j : Fin 4} {x : Int64} (hd : decode cc pc = .ok (.lstore_n j, 1)) (hi : (j : Nat) = i) (hn : i + 1 < nL) (k : zV G y cc nL ret d (pc + 1) (zst2 lv i (.long x)) st h Q) : zV G y cc nL ret d pc lv (.long x :: st) h Q := fun p e R s m args below meth c H locs cells slots n0 z0 ls C h1 h2 h3 h4 h5 h6 => lv_lstore_n C.1 C.2.1 hd hi h6 hn rfl (fun ls9 h9 => k p e R s m args below meth c H locs cells slots n0 z0 ls9 C h1 h2 h3 h4 h5 h9)
theorem v_lstore {i : Nat} {x : Int64} (hd : decode cc pc = .ok (.lstore i, 2)) (hn : i + 1 < nL) (k : zV G y cc nL ret d (pc + 2) (zst2 lv i (.long x)) st h Q) : zV G y cc nL ret d pc lv (.long x :: st) h Q := fun p e R s m args below meth c H locs cells slots n0 z0 ls C h1 h2 h3 h4 h5 h6 => lv_lstore C.1 C.2.1 hd h6 hn rfl (fun ls9 h9 => k p e R s m args below meth c H locs cells slots n0 z0 ls9 C h1 h2 h3 h4 h5 h9)
theorem v_dstore_n {i : Nat} {j : Fin 4} {x : UInt64} (hd : decode cc pc = .ok (.dstore_n j, 1)) (hi : (j : Nat) = i) (hn : i + 1 < nL) (k : zV G y cc nL ret d (pc + 1) (zst2 lv i (.double x)) st h Q) : zV G y cc nL ret d pc lv (.double x :: st) h Q := fun p e R s m args below meth c H locs cells slots n0 z0 ls C h1 h2 h3 h4 h5 h6 => lv_dstore_n C.1 C.2.1 hd hi h6 hn rfl (fun ls9 h9 => k p e R s m args below meth c H locs cells slots n0 z0 ls9 C h1 h2 h3 h4 h5 h9)
theorem v_dstore {i : Nat} {x : UInt64} (hd : decode cc pc = .ok (.dstore i, 2)) (hn : i + 1 < nL) (k : zV G y cc nL ret d (pc + 2) (zst2 lv i (.double x)) st h Q) : zV G y cc nL ret d pc lv (.double x :: st) h Q := fun p e R s m args below meth c H locs cells slots n0 z0 ls C h1 h2 h3 h4 h5 h6 => lv_dstore C.1 C.2.1 hd h6 hn rfl (fun ls9 h9 => k p e R s m args below meth c H locs cells slots n0 z0 ls9 C h1 h2 h3 h4 h5 h9)
theorem v_astore_n {i : Nat} {j : Fin 4} {x : Nat} (hd : decode cc pc = .ok (.astore_n j, 1)) (hi : (j : Nat) = i) (hn : i < nL) (k : zV G y cc nL ret d (pc + 1) (zst1 lv i (.ref x)) st h Q) : zV G y cc nL ret d pc lv (.ref x :: st) h Q := fun p e R s m args below meth c H locs cells slots n0 z0 ls C h1 h2 h3 h4 h5 h6 => lv_astore_n C.1 C.2.1 hd hi h6 hn rfl (fun ls9 h9 => k p e R s m args below meth c H locs cells slots n0 z0 ls9 C h1 h2 h3 h4 h5 h9)
theorem v_astore {i : Nat} {x : Nat} (hd : decode cc pc = .ok (.astore i, 2)) (hn : i < nL) (k : zV G y cc nL ret d (pc + 2) (zst1 lv i (.ref x)) st h Q) : zV G y cc nL ret d pc lv (.ref x :: st) h Q := fun p e R s m args below meth c H locs cells slots n0 z0 ls C h1 h2 h3 h4 h5 h6 => lv_astore C.1 C.2.1 hd h6 hn rfl (fun ls9 h9 => k p e R s m args below meth c H locs cells slots n0 z0 ls9 C h1 h2 h3 h4 h5 h9)
theorem v_astore_nN {i : Nat} {j : Fin 4} (hd : decode cc pc = .ok (.astore_n j, 1)) (hi : (j : Nat) = i) (hn : i < nL) (k : zV G y cc nL ret d (pc + 1) (zst1 lv i .null) st h Q) : zV G y cc nL ret d pc lv (.null :: st) h Q := fun p e R s m args below meth c H locs cells slots n0 z0 ls C h1 h2 h3 h4 h5 h6 => lv_astore_nN C.1 C.2.1 hd hi h6 hn rfl (fun ls9 h9 => k p e R s m args below meth c H locs cells slots n0 z0 ls9 C h1 h2 h3 h4 h5 h9)
theorem v_astoreN {i : Nat} (hd : decode cc pc = .ok (.astore i, 2)) (hn : i < nL) (k : zV G y cc nL ret d (pc + 2) (zst1 lv i .null) st h Q) : zV G y cc nL ret d pc lv (.null :: st) h Q := fun p e R s m args below meth c H locs cells slots n0 z0 ls C h1 h2 h3 h4 h5 h6 => lv_astoreN C.1 C.2.1 hd h6 hn rfl (fun ls9 h9 => k p e R s m args below meth c H locs cells slots n0 z0 ls9 C h1 h2 h3 h4 h5 h9)
theorem v_iinc {i : Nat} {n : Int} {x : Int32} (v : Int32) (hd : decode cc pc = .ok (.iinc i n, 3)) (hl : zlk lv i = some (.int x)) (hv : x + Int32.ofInt n = v) (hn : i < nL) (k : zV G y cc nL ret d (pc + 3) (zst1 lv i (.int v)) st h Q) : zV G y cc nL ret d pc lv st h Q := fun p e R s m args below meth c H locs cells slots n0 z0 ls C h1 h2 h3 h4 h5 h6 => by
  obtain ⟨j, hj⟩ := List.getElem?_of_mem (zlk_mem hl)
  exact lv_iinc C.1 C.2.1 hd h6 hj hv hn rfl (fun ls9 h9 => k p e R s m args below meth c H locs cells slots n0 z0 ls9 C h1 h2 h3 h4 h5 h9)
theorem v_iadd {x z : Int32} (hd : decode cc pc = .ok (.iadd, 1)) (k : zV G y cc nL ret d (pc + 1) lv (.int (x + z) :: st) h Q) : zV G y cc nL ret d pc lv (.int z :: .int x :: st) h Q := fun p e R s m args below meth c H locs cells slots n0 z0 ls C h1 h2 h3 h4 h5 h6 => lv_iadd C.1 C.2.1 hd (k p e R s m args below meth c H locs cells slots n0 z0 ls C h1 h2 h3 h4 h5 h6)
theorem v_isub {x z : Int32} (hd : decode cc pc = .ok (.isub, 1)) (k : zV G y cc nL ret d (pc + 1) lv (.int (x - z) :: st) h Q) : zV G y cc nL ret d pc lv (.int z :: .int x :: st) h Q := fun p e R s m args below meth c H locs cells slots n0 z0 ls C h1 h2 h3 h4 h5 h6 => lv_isub C.1 C.2.1 hd (k p e R s m args below meth c H locs cells slots n0 z0 ls C h1 h2 h3 h4 h5 h6)
theorem v_imul {x z : Int32} (hd : decode cc pc = .ok (.imul, 1)) (k : zV G y cc nL ret d (pc + 1) lv (.int (x * z) :: st) h Q) : zV G y cc nL ret d pc lv (.int z :: .int x :: st) h Q := fun p e R s m args below meth c H locs cells slots n0 z0 ls C h1 h2 h3 h4 h5 h6 => lv_imul C.1 C.2.1 hd (k p e R s m args below meth c H locs cells slots n0 z0 ls C h1 h2 h3 h4 h5 h6)
theorem v_iand {x z : Int32} (hd : decode cc pc = .ok (.iand, 1)) (k : zV G y cc nL ret d (pc + 1) lv (.int (x &&& z) :: st) h Q) : zV G y cc nL ret d pc lv (.int z :: .int x :: st) h Q := fun p e R s m args below meth c H locs cells slots n0 z0 ls C h1 h2 h3 h4 h5 h6 => lv_iand C.1 C.2.1 hd (k p e R s m args below meth c H locs cells slots n0 z0 ls C h1 h2 h3 h4 h5 h6)
theorem v_idiv {x z : Int32} (hd : decode cc pc = .ok (.idiv, 1)) (hz : ¬ z = 0) (k : zV G y cc nL ret d (pc + 1) lv (.int (x / z) :: st) h Q) : zV G y cc nL ret d pc lv (.int z :: .int x :: st) h Q := fun p e R s m args below meth c H locs cells slots n0 z0 ls C h1 h2 h3 h4 h5 h6 => lv_idiv C.1 C.2.1 hd hz (k p e R s m args below meth c H locs cells slots n0 z0 ls C h1 h2 h3 h4 h5 h6)
theorem v_irem {x z : Int32} (hd : decode cc pc = .ok (.irem, 1)) (hz : ¬ z = 0) (k : zV G y cc nL ret d (pc + 1) lv (.int (x - x / z * z) :: st) h Q) : zV G y cc nL ret d pc lv (.int z :: .int x :: st) h Q := fun p e R s m args below meth c H locs cells slots n0 z0 ls C h1 h2 h3 h4 h5 h6 => lv_irem C.1 C.2.1 hd hz (k p e R s m args below meth c H locs cells slots n0 z0 ls C h1 h2 h3 h4 h5 h6)
theorem v_ineg {x : Int32} (hd : decode cc pc = .ok (.ineg, 1)) (k : zV G y cc nL ret d (pc + 1) lv (.int (-x) :: st) h Q) : zV G y cc nL ret d pc lv (.int x :: st) h Q := fun p e R s m args below meth c H locs cells slots n0 z0 ls C h1 h2 h3 h4 h5 h6 => lv_ineg C.1 C.2.1 hd (k p e R s m args below meth c H locs cells slots n0 z0 ls C h1 h2 h3 h4 h5 h6)
theorem v_ladd {x z : Int64} (hd : decode cc pc = .ok (.ladd, 1)) (k : zV G y cc nL ret d (pc + 1) lv (.long (x + z) :: st) h Q) : zV G y cc nL ret d pc lv (.long z :: .long x :: st) h Q := fun p e R s m args below meth c H locs cells slots n0 z0 ls C h1 h2 h3 h4 h5 h6 => lv_ladd C.1 C.2.1 hd (k p e R s m args below meth c H locs cells slots n0 z0 ls C h1 h2 h3 h4 h5 h6)
theorem v_lsub {x z : Int64} (hd : decode cc pc = .ok (.lsub, 1)) (k : zV G y cc nL ret d (pc + 1) lv (.long (x - z) :: st) h Q) : zV G y cc nL ret d pc lv (.long z :: .long x :: st) h Q := fun p e R s m args below meth c H locs cells slots n0 z0 ls C h1 h2 h3 h4 h5 h6 => lv_lsub C.1 C.2.1 hd (k p e R s m args below meth c H locs cells slots n0 z0 ls C h1 h2 h3 h4 h5 h6)
theorem v_lmul {x z : Int64} (hd : decode cc pc = .ok (.lmul, 1)) (k : zV G y cc nL ret d (pc + 1) lv (.long (x * z) :: st) h Q) : zV G y cc nL ret d pc lv (.long z :: .long x :: st) h Q := fun p e R s m args below meth c H locs cells slots n0 z0 ls C h1 h2 h3 h4 h5 h6 => lv_lmul C.1 C.2.1 hd (k p e R s m args below meth c H locs cells slots n0 z0 ls C h1 h2 h3 h4 h5 h6)
theorem v_i2l {x : Int32} (hd : decode cc pc = .ok (.i2l, 1)) (k : zV G y cc nL ret d (pc + 1) lv (.long x.toInt64 :: st) h Q) : zV G y cc nL ret d pc lv (.int x :: st) h Q := fun p e R s m args below meth c H locs cells slots n0 z0 ls C h1 h2 h3 h4 h5 h6 => lv_i2l C.1 C.2.1 hd rfl (k p e R s m args below meth c H locs cells slots n0 z0 ls C h1 h2 h3 h4 h5 h6)
theorem v_i2c {x : Int32} (hd : decode cc pc = .ok (.i2c, 1)) (k : zV G y cc nL ret d (pc + 1) lv (.int (x.toUInt32 % 65536).toInt32 :: st) h Q) : zV G y cc nL ret d pc lv (.int x :: st) h Q := fun p e R s m args below meth c H locs cells slots n0 z0 ls C h1 h2 h3 h4 h5 h6 => lv_i2c C.1 C.2.1 hd rfl (k p e R s m args below meth c H locs cells slots n0 z0 ls C h1 h2 h3 h4 h5 h6)
theorem v_lshl {x : Int64} {z : Int32} (hd : decode cc pc = .ok (.lshl, 1)) (k : zV G y cc nL ret d (pc + 1) lv (.long (x <<< (z.toInt64 &&& 63)) :: st) h Q) : zV G y cc nL ret d pc lv (.int z :: .long x :: st) h Q := fun p e R s m args below meth c H locs cells slots n0 z0 ls C h1 h2 h3 h4 h5 h6 => lv_lshl C.1 C.2.1 hd rfl (k p e R s m args below meth c H locs cells slots n0 z0 ls C h1 h2 h3 h4 h5 h6)
theorem v_i2d {x : Int32} (hd : decode cc pc = .ok (.i2d, 1)) (k : zV G y cc nL ret d (pc + 1) lv (.double (FP.i2d x) :: st) h Q) : zV G y cc nL ret d pc lv (.int x :: st) h Q := fun p e R s m args below meth c H locs cells slots n0 z0 ls C h1 h2 h3 h4 h5 h6 => lv_i2d C.1 C.2.1 hd (k p e R s m args below meth c H locs cells slots n0 z0 ls C h1 h2 h3 h4 h5 h6)
theorem v_d2l {x : UInt64} (hd : decode cc pc = .ok (.d2l, 1)) (k : zV G y cc nL ret d (pc + 1) lv (.long (FP.d2l x) :: st) h Q) : zV G y cc nL ret d pc lv (.double x :: st) h Q := fun p e R s m args below meth c H locs cells slots n0 z0 ls C h1 h2 h3 h4 h5 h6 => lv_d2l C.1 C.2.1 hd (k p e R s m args below meth c H locs cells slots n0 z0 ls C h1 h2 h3 h4 h5 h6)
theorem v_dsub {x z : UInt64} (hd : decode cc pc = .ok (.dsub, 1)) (hne : vf_n64 (FP.dsub x z)) (k : zV G y cc nL ret d (pc + 1) lv (.double (FP.dsub x z) :: st) h Q) : zV G y cc nL ret d pc lv (.double z :: .double x :: st) h Q := fun p e R s m args below meth c H locs cells slots n0 z0 ls C h1 h2 h3 h4 h5 h6 => lv_dsub C.1 C.2.1 hd hne (k p e R s m args below meth c H locs cells slots n0 z0 ls C h1 h2 h3 h4 h5 h6)
theorem v_dmul {x z : UInt64} (hd : decode cc pc = .ok (.dmul, 1)) (hne : vf_n64 (FP.dmul x z)) (k : zV G y cc nL ret d (pc + 1) lv (.double (FP.dmul x z) :: st) h Q) : zV G y cc nL ret d pc lv (.double z :: .double x :: st) h Q := fun p e R s m args below meth c H locs cells slots n0 z0 ls C h1 h2 h3 h4 h5 h6 => lv_dmul C.1 C.2.1 hd hne (k p e R s m args below meth c H locs cells slots n0 z0 ls C h1 h2 h3 h4 h5 h6)
theorem v_ddiv {x z : UInt64} (hd : decode cc pc = .ok (.ddiv, 1)) (hne : vf_n64 (FP.ddiv x z)) (k : zV G y cc nL ret d (pc + 1) lv (.double (FP.ddiv x z) :: st) h Q) : zV G y cc nL ret d pc lv (.double z :: .double x :: st) h Q := fun p e R s m args below meth c H locs cells slots n0 z0 ls C h1 h2 h3 h4 h5 h6 => lv_ddiv C.1 C.2.1 hd hne (k p e R s m args below meth c H locs cells slots n0 z0 ls C h1 h2 h3 h4 h5 h6)
theorem v_dcmp {x z : UInt64} {op : CmpOp} (hd : decode cc pc = .ok (.dcmp op, 1)) (k : zV G y cc nL ret d (pc + 1) lv (.int (Op.cmpValue (FP.dcmp x z) op) :: st) h Q) : zV G y cc nL ret d pc lv (.double z :: .double x :: st) h Q := fun p e R s m args below meth c H locs cells slots n0 z0 ls C h1 h2 h3 h4 h5 h6 => lv_dcmp C.1 C.2.1 hd (k p e R s m args below meth c H locs cells slots n0 z0 ls C h1 h2 h3 h4 h5 h6)
theorem v_dup {w : Value} (hd : decode cc pc = .ok (.dup, 1)) (hw : w.category = 1) (k : zV G y cc nL ret d (pc + 1) lv (w :: w :: st) h Q) : zV G y cc nL ret d pc lv (w :: st) h Q := fun p e R s m args below meth c H locs cells slots n0 z0 ls C h1 h2 h3 h4 h5 h6 => lv_dup C.1 C.2.1 hd hw (k p e R s m args below meth c H locs cells slots n0 z0 ls C h1 h2 h3 h4 h5 h6)
theorem v_pop {w : Value} (hd : decode cc pc = .ok (.pop, 1)) (hw : w.category = 1) (k : zV G y cc nL ret d (pc + 1) lv st h Q) : zV G y cc nL ret d pc lv (w :: st) h Q := fun p e R s m args below meth c H locs cells slots n0 z0 ls C h1 h2 h3 h4 h5 h6 => lv_pop C.1 C.2.1 hd hw (k p e R s m args below meth c H locs cells slots n0 z0 ls C h1 h2 h3 h4 h5 h6)
theorem v_dup2 {w z : Value} (hd : decode cc pc = .ok (.dup2, 1)) (hw : w.category = 1) (hz : z.category = 1) (k : zV G y cc nL ret d (pc + 1) lv (w :: z :: w :: z :: st) h Q) : zV G y cc nL ret d pc lv (w :: z :: st) h Q := fun p e R s m args below meth c H locs cells slots n0 z0 ls C h1 h2 h3 h4 h5 h6 => lv_dup2_11 C.1 C.2.1 hd hw hz (k p e R s m args below meth c H locs cells slots n0 z0 ls C h1 h2 h3 h4 h5 h6)
theorem v_icmp_eq {x z : Int32} {off : Int} (tgt : Nat) (hd : decode cc pc = .ok (.if_icmp .eq off, 3)) (ht : (pc : Int) + off = (tgt : Int)) (kt : x = z → zV G y cc nL ret d tgt lv st h Q) (kf : ¬ x = z → zV G y cc nL ret d (pc + 3) lv st h Q) : zV G y cc nL ret d pc lv (.int z :: .int x :: st) h Q := fun p e R s m args below meth c H locs cells slots n0 z0 ls C h1 h2 h3 h4 h5 h6 => lv_icmp_eq C.1 C.2.1 hd ht (fun b => kt b p e R s m args below meth c H locs cells slots n0 z0 ls C h1 h2 h3 h4 h5 h6) (fun b => kf b p e R s m args below meth c H locs cells slots n0 z0 ls C h1 h2 h3 h4 h5 h6)
theorem v_if_eq {x : Int32} {off : Int} (tgt : Nat) (hd : decode cc pc = .ok (.ifCond .eq off, 3)) (ht : (pc : Int) + off = (tgt : Int)) (kt : x = 0 → zV G y cc nL ret d tgt lv st h Q) (kf : ¬ x = 0 → zV G y cc nL ret d (pc + 3) lv st h Q) : zV G y cc nL ret d pc lv (.int x :: st) h Q := fun p e R s m args below meth c H locs cells slots n0 z0 ls C h1 h2 h3 h4 h5 h6 => lv_if_eq C.1 C.2.1 hd ht (fun b => kt b p e R s m args below meth c H locs cells slots n0 z0 ls C h1 h2 h3 h4 h5 h6) (fun b => kf b p e R s m args below meth c H locs cells slots n0 z0 ls C h1 h2 h3 h4 h5 h6)
theorem v_icmp_ne {x z : Int32} {off : Int} (tgt : Nat) (hd : decode cc pc = .ok (.if_icmp .ne off, 3)) (ht : (pc : Int) + off = (tgt : Int)) (kt : ¬ x = z → zV G y cc nL ret d tgt lv st h Q) (kf : x = z → zV G y cc nL ret d (pc + 3) lv st h Q) : zV G y cc nL ret d pc lv (.int z :: .int x :: st) h Q := fun p e R s m args below meth c H locs cells slots n0 z0 ls C h1 h2 h3 h4 h5 h6 => lv_icmp_ne C.1 C.2.1 hd ht (fun b => kt b p e R s m args below meth c H locs cells slots n0 z0 ls C h1 h2 h3 h4 h5 h6) (fun b => kf b p e R s m args below meth c H locs cells slots n0 z0 ls C h1 h2 h3 h4 h5 h6)
theorem v_if_ne {x : Int32} {off : Int} (tgt : Nat) (hd : decode cc pc = .ok (.ifCond .ne off, 3)) (ht : (pc : Int) + off = (tgt : Int)) (kt : ¬ x = 0 → zV G y cc nL ret d tgt lv st h Q) (kf : x = 0 → zV G y cc nL ret d (pc + 3) lv st h Q) : zV G y cc nL ret d pc lv (.int x :: st) h Q := fun p e R s m args below meth c H locs cells slots n0 z0 ls C h1 h2 h3 h4 h5 h6 => lv_if_ne C.1 C.2.1 hd ht (fun b => kt b p e R s m args below meth c H locs cells slots n0 z0 ls C h1 h2 h3 h4 h5 h6) (fun b => kf b p e R s m args below meth c H locs cells slots n0 z0 ls C h1 h2 h3 h4 h5 h6)
theorem v_icmp_lt {x z : Int32} {off : Int} (tgt : Nat) (hd : decode cc pc = .ok (.if_icmp .lt off, 3)) (ht : (pc : Int) + off = (tgt : Int)) (kt : x < z → zV G y cc nL ret d tgt lv st h Q) (kf : ¬ x < z → zV G y cc nL ret d (pc + 3) lv st h Q) : zV G y cc nL ret d pc lv (.int z :: .int x :: st) h Q := fun p e R s m args below meth c H locs cells slots n0 z0 ls C h1 h2 h3 h4 h5 h6 => lv_icmp_lt C.1 C.2.1 hd ht (fun b => kt b p e R s m args below meth c H locs cells slots n0 z0 ls C h1 h2 h3 h4 h5 h6) (fun b => kf b p e R s m args below meth c H locs cells slots n0 z0 ls C h1 h2 h3 h4 h5 h6)
theorem v_if_lt {x : Int32} {off : Int} (tgt : Nat) (hd : decode cc pc = .ok (.ifCond .lt off, 3)) (ht : (pc : Int) + off = (tgt : Int)) (kt : x < 0 → zV G y cc nL ret d tgt lv st h Q) (kf : ¬ x < 0 → zV G y cc nL ret d (pc + 3) lv st h Q) : zV G y cc nL ret d pc lv (.int x :: st) h Q := fun p e R s m args below meth c H locs cells slots n0 z0 ls C h1 h2 h3 h4 h5 h6 => lv_if_lt C.1 C.2.1 hd ht (fun b => kt b p e R s m args below meth c H locs cells slots n0 z0 ls C h1 h2 h3 h4 h5 h6) (fun b => kf b p e R s m args below meth c H locs cells slots n0 z0 ls C h1 h2 h3 h4 h5 h6)
theorem v_icmp_ge {x z : Int32} {off : Int} (tgt : Nat) (hd : decode cc pc = .ok (.if_icmp .ge off, 3)) (ht : (pc : Int) + off = (tgt : Int)) (kt : z ≤ x → zV G y cc nL ret d tgt lv st h Q) (kf : ¬ z ≤ x → zV G y cc nL ret d (pc + 3) lv st h Q) : zV G y cc nL ret d pc lv (.int z :: .int x :: st) h Q := fun p e R s m args below meth c H locs cells slots n0 z0 ls C h1 h2 h3 h4 h5 h6 => lv_icmp_ge C.1 C.2.1 hd ht (fun b => kt b p e R s m args below meth c H locs cells slots n0 z0 ls C h1 h2 h3 h4 h5 h6) (fun b => kf b p e R s m args below meth c H locs cells slots n0 z0 ls C h1 h2 h3 h4 h5 h6)
theorem v_if_ge {x : Int32} {off : Int} (tgt : Nat) (hd : decode cc pc = .ok (.ifCond .ge off, 3)) (ht : (pc : Int) + off = (tgt : Int)) (kt : 0 ≤ x → zV G y cc nL ret d tgt lv st h Q) (kf : ¬ 0 ≤ x → zV G y cc nL ret d (pc + 3) lv st h Q) : zV G y cc nL ret d pc lv (.int x :: st) h Q := fun p e R s m args below meth c H locs cells slots n0 z0 ls C h1 h2 h3 h4 h5 h6 => lv_if_ge C.1 C.2.1 hd ht (fun b => kt b p e R s m args below meth c H locs cells slots n0 z0 ls C h1 h2 h3 h4 h5 h6) (fun b => kf b p e R s m args below meth c H locs cells slots n0 z0 ls C h1 h2 h3 h4 h5 h6)
theorem v_icmp_gt {x z : Int32} {off : Int} (tgt : Nat) (hd : decode cc pc = .ok (.if_icmp .gt off, 3)) (ht : (pc : Int) + off = (tgt : Int)) (kt : z < x → zV G y cc nL ret d tgt lv st h Q) (kf : ¬ z < x → zV G y cc nL ret d (pc + 3) lv st h Q) : zV G y cc nL ret d pc lv (.int z :: .int x :: st) h Q := fun p e R s m args below meth c H locs cells slots n0 z0 ls C h1 h2 h3 h4 h5 h6 => lv_icmp_gt C.1 C.2.1 hd ht (fun b => kt b p e R s m args below meth c H locs cells slots n0 z0 ls C h1 h2 h3 h4 h5 h6) (fun b => kf b p e R s m args below meth c H locs cells slots n0 z0 ls C h1 h2 h3 h4 h5 h6)
theorem v_if_gt {x : Int32} {off : Int} (tgt : Nat) (hd : decode cc pc = .ok (.ifCond .gt off, 3)) (ht : (pc : Int) + off = (tgt : Int)) (kt : 0 < x → zV G y cc nL ret d tgt lv st h Q) (kf : ¬ 0 < x → zV G y cc nL ret d (pc + 3) lv st h Q) : zV G y cc nL ret d pc lv (.int x :: st) h Q := fun p e R s m args below meth c H locs cells slots n0 z0 ls C h1 h2 h3 h4 h5 h6 => lv_if_gt C.1 C.2.1 hd ht (fun b => kt b p e R s m args below meth c H locs cells slots n0 z0 ls C h1 h2 h3 h4 h5 h6) (fun b => kf b p e R s m args below meth c H locs cells slots n0 z0 ls C h1 h2 h3 h4 h5 h6)
theorem v_icmp_le {x z : Int32} {off : Int} (tgt : Nat) (hd : decode cc pc = .ok (.if_icmp .le off, 3)) (ht : (pc : Int) + off = (tgt : Int)) (kt : x ≤ z → zV G y cc nL ret d tgt lv st h Q) (kf : ¬ x ≤ z → zV G y cc nL ret d (pc + 3) lv st h Q) : zV G y cc nL ret d pc lv (.int z :: .int x :: st) h Q := fun p e R s m args below meth c H locs cells slots n0 z0 ls C h1 h2 h3 h4 h5 h6 => lv_icmp_le C.1 C.2.1 hd ht (fun b => kt b p e R s m args below meth c H locs cells slots n0 z0 ls C h1 h2 h3 h4 h5 h6) (fun b => kf b p e R s m args below meth c H locs cells slots n0 z0 ls C h1 h2 h3 h4 h5 h6)
theorem v_if_le {x : Int32} {off : Int} (tgt : Nat) (hd : decode cc pc = .ok (.ifCond .le off, 3)) (ht : (pc : Int) + off = (tgt : Int)) (kt : x ≤ 0 → zV G y cc nL ret d tgt lv st h Q) (kf : ¬ x ≤ 0 → zV G y cc nL ret d (pc + 3) lv st h Q) : zV G y cc nL ret d pc lv (.int x :: st) h Q := fun p e R s m args below meth c H locs cells slots n0 z0 ls C h1 h2 h3 h4 h5 h6 => lv_if_le C.1 C.2.1 hd ht (fun b => kt b p e R s m args below meth c H locs cells slots n0 z0 ls C h1 h2 h3 h4 h5 h6) (fun b => kf b p e R s m args below meth c H locs cells slots n0 z0 ls C h1 h2 h3 h4 h5 h6)
theorem v_goto {off : Int} (tgt : Nat) (hd : decode cc pc = .ok (.goto off, 3)) (ht : (pc : Int) + off = (tgt : Int)) (k : zV G y cc nL ret d tgt lv st h Q) : zV G y cc nL ret d pc lv st h Q := fun p e R s m args below meth c H locs cells slots n0 z0 ls C h1 h2 h3 h4 h5 h6 => lv_goto C.1 C.2.1 hd ht (k p e R s m args below meth c H locs cells slots n0 z0 ls C h1 h2 h3 h4 h5 h6)
theorem v_ifnonnull {x : Nat} {off : Int} (tgt : Nat) (hd : decode cc pc = .ok (.ifnonnull off, 3)) (ht : (pc : Int) + off = (tgt : Int)) (k : zV G y cc nL ret d tgt lv st h Q) : zV G y cc nL ret d pc lv (.ref x :: st) h Q := fun p e R s m args below meth c H locs cells slots n0 z0 ls C h1 h2 h3 h4 h5 h6 => lv_ifnonnull C.1 C.2.1 hd ht (k p e R s m args below meth c H locs cells slots n0 z0 ls C h1 h2 h3 h4 h5 h6)
theorem v_ifnonnullN {off : Int} (hd : decode cc pc = .ok (.ifnonnull off, 3)) (k : zV G y cc nL ret d (pc + 3) lv st h Q) : zV G y cc nL ret d pc lv (.null :: st) h Q := fun p e R s m args below meth c H locs cells slots n0 z0 ls C h1 h2 h3 h4 h5 h6 => lv_ifnonnullN C.1 C.2.1 hd (k p e R s m args below meth c H locs cells slots n0 z0 ls C h1 h2 h3 h4 h5 h6)
theorem v_tableIn {dflt lo hi : Int} {offs : Array Int} {len : Nat} {x : Int32} {off : Int} (tgt : Nat) (hd : decode cc pc = .ok (.tableswitch dflt lo hi offs, len)) (b1 : ¬ x.toInt < lo) (b2 : ¬ hi < x.toInt) (ho : offs[(x.toInt - lo).toNat]? = some off) (ht : (pc : Int) + off = (tgt : Int)) (k : zV G y cc nL ret d tgt lv st h Q) : zV G y cc nL ret d pc lv (.int x :: st) h Q := fun p e R s m args below meth c H locs cells slots n0 z0 ls C h1 h2 h3 h4 h5 h6 => lv_tableIn C.1 C.2.1 hd b1 b2 ho ht (k p e R s m args below meth c H locs cells slots n0 z0 ls C h1 h2 h3 h4 h5 h6)
theorem v_tableOut {dflt lo hi : Int} {offs : Array Int} {len : Nat} {x : Int32} (tgt : Nat) (hd : decode cc pc = .ok (.tableswitch dflt lo hi offs, len)) (b1 : x.toInt < lo ∨ hi < x.toInt) (ht : (pc : Int) + dflt = (tgt : Int)) (k : zV G y cc nL ret d tgt lv st h Q) : zV G y cc nL ret d pc lv (.int x :: st) h Q := fun p e R s m args below meth c H locs cells slots n0 z0 ls C h1 h2 h3 h4 h5 h6 => lv_tableOut C.1 C.2.1 hd b1 ht (k p e R s m args below meth c H locs cells slots n0 z0 ls C h1 h2 h3 h4 h5 h6)
theorem v_lookup {dflt : Int} {ps : Array (Int × Int)} {len : Nat} {x : Int32} {off : Int} (tgt : Nat) (hd : decode cc pc = .ok (.lookupswitch dflt ps, len)) (hp : (ps.toList.zip (ps.toList.drop 1)).all (fun (a, next) => a.1 < next.1) = true) (ho : Op.lookupswitch.offset ps.toList dflt x.toInt = off) (ht : (pc : Int) + off = (tgt : Int)) (k : zV G y cc nL ret d tgt lv st h Q) : zV G y cc nL ret d pc lv (.int x :: st) h Q := fun p e R s m args below meth c H locs cells slots n0 z0 ls C h1 h2 h3 h4 h5 h6 => lv_lookup C.1 C.2.1 hd hp ho ht (k p e R s m args below meth c H locs cells slots n0 z0 ls C h1 h2 h3 h4 h5 h6)
theorem v_ldc {index : Nat} (v : Int32) (hd : decode cc pc = .ok (.ldc index, 2)) (hw : Cond.constant y.cls index v ∈ GT) (k : zV G y cc nL ret d (pc + 2) lv (.int v :: st) h Q) : zV G y cc nL ret d pc lv st h Q := fun p e R s m args below meth c H locs cells slots n0 z0 ls C h1 h2 h3 h4 h5 h6 => lv_ldc C.1 C.2.1 C.2.2.2.1 (C.2.2.2.2.2.2.2.2.1 _ hw) hd (k p e R s m args below meth c H locs cells slots n0 z0 ls C h1 h2 h3 h4 h5 h6)
theorem v_ldcw {index : Nat} (v : Int32) (hd : decode cc pc = .ok (.ldc_w index, 3)) (hw : Cond.constant y.cls index v ∈ GT) (k : zV G y cc nL ret d (pc + 3) lv (.int v :: st) h Q) : zV G y cc nL ret d pc lv st h Q := fun p e R s m args below meth c H locs cells slots n0 z0 ls C h1 h2 h3 h4 h5 h6 => lv_ldcw C.1 C.2.1 C.2.2.2.1 (C.2.2.2.2.2.2.2.2.1 _ hw) hd (k p e R s m args below meth c H locs cells slots n0 z0 ls C h1 h2 h3 h4 h5 h6)
theorem v_ldc2 {index : Nat} (v : Int64) (hd : decode cc pc = .ok (.ldc2_w index, 3)) (hw : Cond.constantLong y.cls index v ∈ GT) (k : zV G y cc nL ret d (pc + 3) lv (.long v :: st) h Q) : zV G y cc nL ret d pc lv st h Q := fun p e R s m args below meth c H locs cells slots n0 z0 ls C h1 h2 h3 h4 h5 h6 => lv_ldc2 C.1 C.2.1 C.2.2.2.1 (C.2.2.2.2.2.2.2.2.1 _ hw) hd (k p e R s m args below meth c H locs cells slots n0 z0 ls C h1 h2 h3 h4 h5 h6)
theorem v_ldc2d {index : Nat} (v : UInt64) (hd : decode cc pc = .ok (.ldc2_w index, 3)) (hw : Cond.constantDouble y.cls index v ∈ GT) (k : zV G y cc nL ret d (pc + 3) lv (.double v :: st) h Q) : zV G y cc nL ret d pc lv st h Q := fun p e R s m args below meth c H locs cells slots n0 z0 ls C h1 h2 h3 h4 h5 h6 => lv_ldc2d C.1 C.2.1 C.2.2.2.1 (C.2.2.2.2.2.2.2.2.1 _ hw) hd (k p e R s m args below meth c H locs cells slots n0 z0 ls C h1 h2 h3 h4 h5 h6)
end ZROWS
end
section
/-- a field's link: the class's number, the field's place, its type, whether it is final -/
def zFL (own : String) (idx ci k : Nat) (ty : FieldType) (fin : Bool) : Prop :=
  ∃ (C : String) (T : u_T) (N : Nat) (ty0 : Nat → FieldType), zCL[ci]? = some (C, T, N) ∧ (∀ w ∈ u_ws C T N, w ∈ GT) ∧ k < N ∧ Cond.fieldLink own idx C (T k).2.1 (T k).2.2.1 ∈ GT ∧ (T k).1 = C ∧
    (∀ k, k < N → parseFieldDescriptor (T k).2.2.1 = some (ty0 k)) ∧ (∀ a, a < N → ∀ b, b < N → a ≠ b → (T a).2.1 ≠ (T b).2.1) ∧ (T k).2.2.2 = fin ∧ parseFieldDescriptor (T k).2.2.1 = some ty
/-- a class that can be made -/
def zNL (own : String) (idx ci : Nat) (fs : List Value) (n : Nat) : Prop :=
  ∃ (C : String) (T : u_T) (ty0 : Nat → FieldType), zCL[ci]? = some (C, T, n) ∧ (∀ w ∈ u_ws C T n, w ∈ GT) ∧ (∀ k, k < n → parseFieldDescriptor (T k).2.2.1 = some (ty0 k)) ∧ Cond.classLink own idx C ∈ GT ∧ Cond.instantiable C n ∈ GT ∧ Cond.initialized C ∈ GT ∧ ∀ j, j < n → defaultValue (ty0 j) = vp_V fs j
theorem zR.new {G : zW} {f : zHM} {ws : va_W} {q : Nat} {e : zCE} (h1 : ∀ a e, f a = some e → ∃ k : Nat, ws[k]? = some (a, zE G.2.2.1 e)) (b : Nat) (x : zCE) (hb : zup f q e b = some x) : ∃ k : Nat, (ws ++ [(q, zE G.2.2.1 e)])[k]? = some (b, zE G.2.2.1 x) := by
  by_cases hbq : b = q
  · subst hbq
    rw [zup_at] at hb
    cases hb
    exact ⟨ws.length, by simp⟩
  · rw [zup_ne hbq] at hb
    obtain ⟨k, hk⟩ := h1 b x hb
    exact ⟨k, by rw [List.getElem?_append_left (List.getElem?_eq_some_iff.mp hk).1]; exact hk⟩
theorem zR.fresh {G : zW} {f : zHM} {ws : va_W} {q : Nat} {e : va_E} {A : Nat → Prop} (h1 : ∀ a e, f a = some e → ∃ k : Nat, ws[k]? = some (a, zE G.2.2.1 e)) (hD : va_D A (ws ++ [(q, e)])) : f q = none := by
  cases hf : f q with
  | none => rfl
  | some x =>
    obtain ⟨k, hk⟩ := h1 q x hf
    have hlt := (List.getElem?_eq_some_iff.mp hk).1
    have := hD.1 k ws.length (q, zE G.2.2.1 x) (q, e) (by rw [List.getElem?_append_left hlt]; exact hk) (show (ws ++ [(q, e)])[ws.length]? = some (q, e) by simp) rfl
    omega
theorem zcells {G : zW} {h : zH} {n0 cells d : Nat} (h1 : h.2.1 = n0 + cells) (h3 : zcap h) : cells + 0 ≤ 50000 * (d + 1) := by
  have := h3.1
  omega
section ZHEAP
variable {G : zW} {y : MethodName} {cc : ByteArray} {nL : Nat} {ret : Option FieldType} {d : Nat} {pc : Nat} {lv : List (Nat × Value)} {st : List Value} {h : zH} {Q : zOut → zH → Prop}
theorem zb8 {N b : Nat} (h : N ≤ 60000) (h8 : b ≤ 8) : N * b ≤ 536870912 := Nat.le_trans (Nat.mul_le_mul h h8) (by decide)
theorem v_getfield {idx ci k a : Nat} {ty : FieldType} {fin : Bool} {fs : List Value} {v : Value} (f : zFL y.cls idx ci k ty fin) (hd : decode cc pc = .ok (.getfield idx, 3)) (ha : h.1 a = some (.inr (ci, fs))) (hv : fs[k]? = some v) (kk : zV G y cc nL ret d (pc + 3) lv (v :: st) h Q) : zV G y cc nL ret d pc lv (.ref a :: st) h Q := fun p e R s m args below meth c H locs cells slots n0 z0 ls C h1 h2 h3 h4 h5 h6 => by
  obtain ⟨hx, hb, hml, hown, hrt, hlk, hnm, htb, hts, hR, hG, hbs⟩ := C
  obtain ⟨Cn, T, N, ty0, f1, f2, f3, f4, f5, f6, f7, f8, f9⟩ := f
  obtain ⟨ws, w1, w2, w3, q0, hq⟩ := h4.at ha
  exact va_get (D := G.2.1) (cl := zCL) (C := Cn) (T := T) (N := N) (ci := ci) hx hb hts f2 hown hG.2.1 w2 q0 hq f1 k f3 (hts _ f4) (fun x hx => by rw [f5] at hx; exact hx) hv hd (kk p e R s m args below meth c H locs cells slots n0 z0 ls ⟨hx, hb, hml, hown, hrt, hlk, hnm, htb, hts, hR, hG, hbs⟩ h1 h2 h3 h4 h5 h6)
theorem v_putfield {idx ci k a : Nat} {ty : FieldType} {fs : List Value} {v : Value} (f : zFL y.cls idx ci k ty false) (hd : decode cc pc = .ok (.putfield idx, 3)) (ha : h.1 a = some (.inr (ci, fs))) (hn : narrow ty v = v) (hf : fits ty v = true) (hl : k < fs.length) (kk : zV G y cc nL ret d (pc + 3) lv st (zup h.1 a (.inr (ci, fs.set k v)), h.2) Q) : zV G y cc nL ret d pc lv (v :: .ref a :: st) h Q := fun p e R s m args below meth c H locs cells slots n0 z0 ls C h1 h2 h3 h4 h5 h6 => by
  obtain ⟨hx, hb, hml, hown, hrt, hlk, hnm, htb, hts, hR, hG, hbs⟩ := C
  obtain ⟨Cn, T, N, ty0, f1, f2, f3, f4, f5, f6, f7, f8, f9⟩ := f
  obtain ⟨ws, w1, w2, w3, q0, hq⟩ := h4.at ha
  exact va_put (D := G.2.1) (cl := zCL) (C := Cn) (T := T) (N := N) (ci := ci) hx hb hts f2 ty0 f6 f7 hown hG.2.1 w2 w3 h5 q0 hq f1 k f3 (hts _ f4) (fun x hx => by rw [f5] at hx; exact hx) f8 f9 hn hf hl hd (fun H9 locs9 hP9 hD9 hS9 => kk p e R s m args below meth c H9 locs9 cells slots n0 z0 ls ⟨hx, hb, hml, hown, hrt, hlk, hnm, htb, hts, hR, hG, hbs⟩ h1 h2 h3 ⟨_, zR.put w1 hq, hP9, hD9⟩ hS9 h6)
theorem v_putfieldF {idx ci k a : Nat} {ty : FieldType} {fs : List Value} {v : Value} (f : zFL y.cls idx ci k ty true) (hin : y.name = "<init>") (hdc : zCL[ci]?.map (fun q => q.1) = some y.cls) (hd : decode cc pc = .ok (.putfield idx, 3)) (ha : h.1 a = some (.inr (ci, fs))) (hn : narrow ty v = v) (hf : fits ty v = true) (hl : k < fs.length) (kk : zV G y cc nL ret d (pc + 3) lv st (zup h.1 a (.inr (ci, fs.set k v)), h.2) Q) : zV G y cc nL ret d pc lv (v :: .ref a :: st) h Q := fun p e R s m args below meth c H locs cells slots n0 z0 ls C h1 h2 h3 h4 h5 h6 => by
  obtain ⟨hx, hb, hml, hown, hrt, hlk, hnm, htb, hts, hR, hG, hbs⟩ := C
  obtain ⟨Cn, T, N, ty0, f1, f2, f3, f4, f5, f6, f7, f8, f9⟩ := f
  obtain ⟨ws, w1, w2, w3, q0, hq⟩ := h4.at ha
  have hCn : Cn = y.cls := by rw [f1] at hdc; exact Option.some.inj hdc
  exact va_putF (D := G.2.1) (cl := zCL) (C := Cn) (T := T) (N := N) (ci := ci) hx hb hts f2 ty0 f6 f7 hown hG.2.1 w2 w3 h5 q0 hq f1 k f3 (hts _ f4) (fun x hx => by rw [f5] at hx; exact hx) f8 (hnm.trans hin) (f5.trans hCn) f9 hn hf hl hd (fun H9 locs9 hP9 hD9 hS9 => kk p e R s m args below meth c H9 locs9 cells slots n0 z0 ls ⟨hx, hb, hml, hown, hrt, hlk, hnm, htb, hts, hR, hG, hbs⟩ h1 h2 h3 ⟨_, zR.put w1 hq, hP9, hD9⟩ hS9 h6)
theorem v_iaload {a n : Nat} {f : Nat → Int32} {i : Int32} (hd : decode cc pc = .ok (.iaload, 1)) (ha : h.1 a = some (.inl (0, n, .inl f))) (hin : vp_in i n) (kk : zV G y cc nL ret d (pc + 1) lv (.int (f i.toNatClampNeg) :: st) h Q) : zV G y cc nL ret d pc lv (.int i :: .ref a :: st) h Q := fun p e R s m args below meth c H locs cells slots n0 z0 ls C h1 h2 h3 h4 h5 h6 => by
  obtain ⟨hx, hb, hml, hown, hrt, hlk, hnm, htb, hts, hR, hG, hbs⟩ := C
  obtain ⟨ws, w1, w2, w3, q0, hq⟩ := h4.at ha
  exact va_iald (D := G.2.1) (cl := zCL) hx hb hG.2.1 w2 q0 0 hq rfl hin hd (kk p e R s m args below meth c H locs cells slots n0 z0 ls ⟨hx, hb, hml, hown, hrt, hlk, hnm, htb, hts, hR, hG, hbs⟩ h1 h2 h3 h4 h5 h6)
theorem v_laload {a n : Nat} {f : Nat → Int64} {i : Int32} (hd : decode cc pc = .ok (.laload, 1)) (ha : h.1 a = some (.inl (1, n, .inr (.inl f)))) (hin : vp_in i n) (kk : zV G y cc nL ret d (pc + 1) lv (.long (f i.toNatClampNeg) :: st) h Q) : zV G y cc nL ret d pc lv (.int i :: .ref a :: st) h Q := fun p e R s m args below meth c H locs cells slots n0 z0 ls C h1 h2 h3 h4 h5 h6 => by
  obtain ⟨hx, hb, hml, hown, hrt, hlk, hnm, htb, hts, hR, hG, hbs⟩ := C
  obtain ⟨ws, w1, w2, w3, q0, hq⟩ := h4.at ha
  exact va_lald (D := G.2.1) (cl := zCL) hx hb hG.2.1 w2 q0 1 hq rfl hin hd (kk p e R s m args below meth c H locs cells slots n0 z0 ls ⟨hx, hb, hml, hown, hrt, hlk, hnm, htb, hts, hR, hG, hbs⟩ h1 h2 h3 h4 h5 h6)
theorem v_zaload {a n : Nat} {f : Nat → Int32} {i : Int32} (hd : decode cc pc = .ok (.baload, 1)) (ha : h.1 a = some (.inl (2, n, .inl f))) (hin : vp_in i n) (kk : zV G y cc nL ret d (pc + 1) lv (.int (f i.toNatClampNeg) :: st) h Q) : zV G y cc nL ret d pc lv (.int i :: .ref a :: st) h Q := fun p e R s m args below meth c H locs cells slots n0 z0 ls C h1 h2 h3 h4 h5 h6 => by
  obtain ⟨hx, hb, hml, hown, hrt, hlk, hnm, htb, hts, hR, hG, hbs⟩ := C
  obtain ⟨ws, w1, w2, w3, q0, hq⟩ := h4.at ha
  exact va_zald (D := G.2.1) (cl := zCL) hx hb hG.2.1 w2 q0 2 hq rfl hin hd (kk p e R s m args below meth c H locs cells slots n0 z0 ls ⟨hx, hb, hml, hown, hrt, hlk, hnm, htb, hts, hR, hG, hbs⟩ h1 h2 h3 h4 h5 h6)
theorem v_caload {a n : Nat} {f : Nat → Int32} {i : Int32} (hd : decode cc pc = .ok (.caload, 1)) (ha : h.1 a = some (.inl (3, n, .inl f))) (hin : vp_in i n) (kk : zV G y cc nL ret d (pc + 1) lv (.int (f i.toNatClampNeg) :: st) h Q) : zV G y cc nL ret d pc lv (.int i :: .ref a :: st) h Q := fun p e R s m args below meth c H locs cells slots n0 z0 ls C h1 h2 h3 h4 h5 h6 => by
  obtain ⟨hx, hb, hml, hown, hrt, hlk, hnm, htb, hts, hR, hG, hbs⟩ := C
  obtain ⟨ws, w1, w2, w3, q0, hq⟩ := h4.at ha
  exact va_cald (D := G.2.1) (cl := zCL) hx hb hG.2.1 w2 q0 3 hq rfl hin hd (kk p e R s m args below meth c H locs cells slots n0 z0 ls ⟨hx, hb, hml, hown, hrt, hlk, hnm, htb, hts, hR, hG, hbs⟩ h1 h2 h3 h4 h5 h6)
theorem v_aaloadL {a n : Nat} {f : Nat → Option Nat} {i : Int32} (hd : decode cc pc = .ok (.aaload, 1)) (ha : h.1 a = some (.inl (4, n, .inr (.inr (.inr (.inr f)))))) (hin : vp_in i n) (kk : zV G y cc nL ret d (pc + 1) lv (va_rf (f i.toNatClampNeg) :: st) h Q) : zV G y cc nL ret d pc lv (.int i :: .ref a :: st) h Q := fun p e R s m args below meth c H locs cells slots n0 z0 ls C h1 h2 h3 h4 h5 h6 => by
  obtain ⟨hx, hb, hml, hown, hrt, hlk, hnm, htb, hts, hR, hG, hbs⟩ := C
  obtain ⟨ws, w1, w2, w3, q0, hq⟩ := h4.at ha
  exact va_aldq (D := G.2.1) (cl := zCL) hx hb hG.2.1 w2 q0 4 hq rfl hin hd (kk p e R s m args below meth c H locs cells slots n0 z0 ls ⟨hx, hb, hml, hown, hrt, hlk, hnm, htb, hts, hR, hG, hbs⟩ h1 h2 h3 h4 h5 h6)
theorem v_aaloadR {a n : Nat} {f : Nat → Option Nat} {i : Int32} (hd : decode cc pc = .ok (.aaload, 1)) (ha : h.1 a = some (.inl (5, n, .inr (.inr (.inr (.inr f)))))) (hin : vp_in i n) (kk : zV G y cc nL ret d (pc + 1) lv (va_rf (f i.toNatClampNeg) :: st) h Q) : zV G y cc nL ret d pc lv (.int i :: .ref a :: st) h Q := fun p e R s m args below meth c H locs cells slots n0 z0 ls C h1 h2 h3 h4 h5 h6 => by
  obtain ⟨hx, hb, hml, hown, hrt, hlk, hnm, htb, hts, hR, hG, hbs⟩ := C
  obtain ⟨ws, w1, w2, w3, q0, hq⟩ := h4.at ha
  exact va_aldq (D := G.2.1) (cl := zCL) hx hb hG.2.1 w2 q0 5 hq rfl hin hd (kk p e R s m args below meth c H locs cells slots n0 z0 ls ⟨hx, hb, hml, hown, hrt, hlk, hnm, htb, hts, hR, hG, hbs⟩ h1 h2 h3 h4 h5 h6)
theorem v_iastore {a n : Nat} {f : Nat → Int32} {i : Int32} {x : Int32} (hd : decode cc pc = .ok (.iastore, 1)) (ha : h.1 a = some (.inl (0, n, .inl f))) (hin : vp_in i n) (kk : zV G y cc nL ret d (pc + 1) lv st (zup h.1 a (.inl (0, n, .inl (upd f i.toNatClampNeg x))), h.2) Q) : zV G y cc nL ret d pc lv (.int x :: .int i :: .ref a :: st) h Q := fun p e R s m args below meth c H locs cells slots n0 z0 ls C h1 h2 h3 h4 h5 h6 => by
  obtain ⟨hx, hb, hml, hown, hrt, hlk, hnm, htb, hts, hR, hG, hbs⟩ := C
  obtain ⟨ws, w1, w2, w3, q0, hq⟩ := h4.at ha
  exact va_iast (D := G.2.1) (cl := zCL) hx hb hG.2.1 w2 w3 h5 q0 0 hq rfl hin hd (fun H9 locs9 hP9 hD9 hS9 => kk p e R s m args below meth c H9 locs9 cells slots n0 z0 ls ⟨hx, hb, hml, hown, hrt, hlk, hnm, htb, hts, hR, hG, hbs⟩ h1 h2 h3 ⟨_, zR.put w1 hq, hP9, hD9⟩ hS9 h6)
theorem v_lastore {a n : Nat} {f : Nat → Int64} {i : Int32} {x : Int64} (hd : decode cc pc = .ok (.lastore, 1)) (ha : h.1 a = some (.inl (1, n, .inr (.inl f)))) (hin : vp_in i n) (kk : zV G y cc nL ret d (pc + 1) lv st (zup h.1 a (.inl (1, n, .inr (.inl (vp_updL f i.toNatClampNeg x)))), h.2) Q) : zV G y cc nL ret d pc lv (.long x :: .int i :: .ref a :: st) h Q := fun p e R s m args below meth c H locs cells slots n0 z0 ls C h1 h2 h3 h4 h5 h6 => by
  obtain ⟨hx, hb, hml, hown, hrt, hlk, hnm, htb, hts, hR, hG, hbs⟩ := C
  obtain ⟨ws, w1, w2, w3, q0, hq⟩ := h4.at ha
  exact va_last (D := G.2.1) (cl := zCL) hx hb hG.2.1 w2 w3 h5 q0 1 hq rfl hin hd (fun H9 locs9 hP9 hD9 hS9 => kk p e R s m args below meth c H9 locs9 cells slots n0 z0 ls ⟨hx, hb, hml, hown, hrt, hlk, hnm, htb, hts, hR, hG, hbs⟩ h1 h2 h3 ⟨_, zR.put w1 hq, hP9, hD9⟩ hS9 h6)
theorem v_zastore {a n : Nat} {f : Nat → Int32} {i : Int32} {x : Int32} (hd : decode cc pc = .ok (.bastore, 1)) (ha : h.1 a = some (.inl (2, n, .inl f))) (hin : vp_in i n) (kk : zV G y cc nL ret d (pc + 1) lv st (zup h.1 a (.inl (2, n, .inl (upd f i.toNatClampNeg (vp_nar .boolean x)))), h.2) Q) : zV G y cc nL ret d pc lv (.int x :: .int i :: .ref a :: st) h Q := fun p e R s m args below meth c H locs cells slots n0 z0 ls C h1 h2 h3 h4 h5 h6 => by
  obtain ⟨hx, hb, hml, hown, hrt, hlk, hnm, htb, hts, hR, hG, hbs⟩ := C
  obtain ⟨ws, w1, w2, w3, q0, hq⟩ := h4.at ha
  exact va_zast (D := G.2.1) (cl := zCL) hx hb hG.2.1 w2 w3 h5 q0 2 hq rfl hin hd (fun H9 locs9 hP9 hD9 hS9 => kk p e R s m args below meth c H9 locs9 cells slots n0 z0 ls ⟨hx, hb, hml, hown, hrt, hlk, hnm, htb, hts, hR, hG, hbs⟩ h1 h2 h3 ⟨_, zR.put w1 hq, hP9, hD9⟩ hS9 h6)
theorem v_castore {a n : Nat} {f : Nat → Int32} {i : Int32} {x : Int32} (hd : decode cc pc = .ok (.castore, 1)) (ha : h.1 a = some (.inl (3, n, .inl f))) (hin : vp_in i n) (kk : zV G y cc nL ret d (pc + 1) lv st (zup h.1 a (.inl (3, n, .inl (upd f i.toNatClampNeg (vp_nar .char x)))), h.2) Q) : zV G y cc nL ret d pc lv (.int x :: .int i :: .ref a :: st) h Q := fun p e R s m args below meth c H locs cells slots n0 z0 ls C h1 h2 h3 h4 h5 h6 => by
  obtain ⟨hx, hb, hml, hown, hrt, hlk, hnm, htb, hts, hR, hG, hbs⟩ := C
  obtain ⟨ws, w1, w2, w3, q0, hq⟩ := h4.at ha
  exact va_cast (D := G.2.1) (cl := zCL) hx hb hG.2.1 w2 w3 h5 q0 3 hq rfl hin hd (fun H9 locs9 hP9 hD9 hS9 => kk p e R s m args below meth c H9 locs9 cells slots n0 z0 ls ⟨hx, hb, hml, hown, hrt, hlk, hnm, htb, hts, hR, hG, hbs⟩ h1 h2 h3 ⟨_, zR.put w1 hq, hP9, hD9⟩ hS9 h6)
theorem v_aastoreL {a n b : Nat} {vs : List Value} {f : Nat → Option Nat} {i : Int32} (hd : decode cc pc = .ok (.aastore, 1)) (ha : h.1 a = some (.inl (4, n, .inr (.inr (.inr (.inr f)))))) (hbv : h.1 b = some (.inr (0, vs))) (hin : vp_in i n) (kk : zV G y cc nL ret d (pc + 1) lv st (zup h.1 a (.inl (4, n, .inr (.inr (.inr (.inr (va_up f i.toNatClampNeg (some b))))))), h.2) Q) : zV G y cc nL ret d pc lv (.ref b :: .int i :: .ref a :: st) h Q := fun p e R s m args below meth c H locs cells slots n0 z0 ls C h1 h2 h3 h4 h5 h6 => by
  obtain ⟨hx, hb, hml, hown, hrt, hlk, hnm, htb, hts, hR, hG, hbs⟩ := C
  obtain ⟨ws, w1, w2, w3, q0, hq⟩ := h4.at ha
  obtain ⟨qk, hqk⟩ := w1 _ _ hbv
  exact va_astq (D := G.2.1) (cl := zCL) (r := (RX0, TX0, 2)) (ci := 0) (vs := vs) hx hb hG.2.1 w2 w3 h5 q0 4 qk hq rfl hqk rfl hin hd (fun H9 locs9 hP9 hD9 hS9 => kk p e R s m args below meth c H9 locs9 cells slots n0 z0 ls ⟨hx, hb, hml, hown, hrt, hlk, hnm, htb, hts, hR, hG, hbs⟩ h1 h2 h3 ⟨_, zR.put w1 hq, hP9, hD9⟩ hS9 h6)
theorem v_aastoreR {a n b : Nat} {vs : List Value} {f : Nat → Option Nat} {i : Int32} (hd : decode cc pc = .ok (.aastore, 1)) (ha : h.1 a = some (.inl (5, n, .inr (.inr (.inr (.inr f)))))) (hbv : h.1 b = some (.inr (1, vs))) (hin : vp_in i n) (kk : zV G y cc nL ret d (pc + 1) lv st (zup h.1 a (.inl (5, n, .inr (.inr (.inr (.inr (va_up f i.toNatClampNeg (some b))))))), h.2) Q) : zV G y cc nL ret d pc lv (.ref b :: .int i :: .ref a :: st) h Q := fun p e R s m args below meth c H locs cells slots n0 z0 ls C h1 h2 h3 h4 h5 h6 => by
  obtain ⟨hx, hb, hml, hown, hrt, hlk, hnm, htb, hts, hR, hG, hbs⟩ := C
  obtain ⟨ws, w1, w2, w3, q0, hq⟩ := h4.at ha
  obtain ⟨qk, hqk⟩ := w1 _ _ hbv
  exact va_astq (D := G.2.1) (cl := zCL) (r := (RX1, TX1, 19)) (ci := 1) (vs := vs) hx hb hG.2.1 w2 w3 h5 q0 5 qk hq rfl hqk rfl hin hd (fun H9 locs9 hP9 hD9 hS9 => kk p e R s m args below meth c H9 locs9 cells slots n0 z0 ls ⟨hx, hb, hml, hown, hrt, hlk, hnm, htb, hts, hR, hG, hbs⟩ h1 h2 h3 ⟨_, zR.put w1 hq, hP9, hD9⟩ hS9 h6)
theorem v_aastoreRN {a n : Nat} {f : Nat → Option Nat} {i : Int32} (hd : decode cc pc = .ok (.aastore, 1)) (ha : h.1 a = some (.inl (5, n, .inr (.inr (.inr (.inr f)))))) (hin : vp_in i n) (kk : zV G y cc nL ret d (pc + 1) lv st (zup h.1 a (.inl (5, n, .inr (.inr (.inr (.inr (va_up f i.toNatClampNeg none)))))), h.2) Q) : zV G y cc nL ret d pc lv (.null :: .int i :: .ref a :: st) h Q := fun p e R s m args below meth c H locs cells slots n0 z0 ls C h1 h2 h3 h4 h5 h6 => by
  obtain ⟨hx, hb, hml, hown, hrt, hlk, hnm, htb, hts, hR, hG, hbs⟩ := C
  obtain ⟨ws, w1, w2, w3, q0, hq⟩ := h4.at ha
  exact va_astqN (D := G.2.1) (cl := zCL) (C := "RingThreads$Ring") hx hb hG.2.1 w2 w3 h5 q0 5 hq rfl hin hd (fun H9 locs9 hP9 hD9 hS9 => kk p e R s m args below meth c H9 locs9 cells slots n0 z0 ls ⟨hx, hb, hml, hown, hrt, hlk, hnm, htb, hts, hR, hG, hbs⟩ h1 h2 h3 ⟨_, zR.put w1 hq, hP9, hD9⟩ hS9 h6)
theorem v_arraylength {a i : Nat} {x : vp_A} (hi : i < 6) (hd : decode cc pc = .ok (.arraylength, 1)) (ha : h.1 a = some (.inl (i, x))) (kk : zV G y cc nL ret d (pc + 1) lv (.int (Int32.ofNat x.1) :: st) h Q) : zV G y cc nL ret d pc lv (.ref a :: st) h Q := fun p e R s m args below meth c H locs cells slots n0 z0 ls C h1 h2 h3 h4 h5 h6 => by
  obtain ⟨hx, hb, hml, hown, hrt, hlk, hnm, htb, hts, hR, hG, hbs⟩ := C
  obtain ⟨ws, w1, w2, w3, q0, hq⟩ := h4.at ha
  have ht : ∃ ty, (ztys G.2.2.1)[i]? = some (G.2.2.1 i, ty) := by
    match i, hi with
    | 0, _ => exact ⟨_, rfl⟩
    | 1, _ => exact ⟨_, rfl⟩
    | 2, _ => exact ⟨_, rfl⟩
    | 3, _ => exact ⟨_, rfl⟩
    | 4, _ => exact ⟨_, rfl⟩
    | 5, _ => exact ⟨_, rfl⟩
  obtain ⟨ty, ht⟩ := ht
  exact va_alen (D := G.2.1) (cl := zCL) hx hb hG.2.1 w2 q0 i hq ht rfl hd (kk p e R s m args below meth c H locs cells slots n0 z0 ls ⟨hx, hb, hml, hown, hrt, hlk, hnm, htb, hts, hR, hG, hbs⟩ h1 h2 h3 h4 h5 h6)
theorem v_getsM {idx : Nat} (hd : decode cc pc = .ok (.getstatic idx, 3)) (hw : Cond.fieldLink y.cls idx "RingThreads" "MOST_SETTING" "[I" ∈ GT) (kk : zV G y cc nL ret d (pc + 3) lv (.ref G.2.2.2.2.2 :: st) h Q) : zV G y cc nL ret d pc lv st h Q := fun p e R s m args below meth c H locs cells slots n0 z0 ls C h1 h2 h3 h4 h5 h6 => by
  obtain ⟨hx, hb, hml, hown, hrt, hlk, hnm, htb, hts, hR, hG, hbs⟩ := C
  exact va_gets (C := "RingThreads") hx hb hG.2.2.2.1.1 h5 hown (hts _ hw) (fun x hx => hx) hd (kk p e R s m args below meth c H locs cells slots n0 z0 ls ⟨hx, hb, hml, hown, hrt, hlk, hnm, htb, hts, hR, hG, hbs⟩ h1 h2 h3 h4 h5 h6)
theorem v_getsA (hy : y.cls = "RingThreads$Line") (hd : decode cc pc = .ok (.getstatic 19, 3)) (kk : zV G y cc nL ret d (pc + 3) lv (.ref G.2.2.2.2.1 :: st) h Q) : zV G y cc nL ret d pc lv st h Q := fun p e R s m args below meth c H locs cells slots n0 z0 ls C h1 h2 h3 h4 h5 h6 => by
  obtain ⟨hx, hb, hml, hown, hrt, hlk, hnm, htb, hts, hR, hG, hbs⟩ := C
  exact va_getsN (C := "RingThreads") (own := "RingThreads$Line") (host := "RingThreads") hx hb hG.2.2.1.1 h5 (by rw [← hy]; exact hown) (va_Nw.use rfl hG.2.2.2.2.2.2.2.1) (fun x hx => hx) hd (kk p e R s m args below meth c H locs cells slots n0 z0 ls ⟨hx, hb, hml, hown, hrt, hlk, hnm, htb, hts, hR, hG, hbs⟩ h1 h2 h3 h4 h5 h6)
theorem v_ialoadA {i : Int32} (hd : decode cc pc = .ok (.iaload, 1)) (hin : vp_in i 24) (kk : zV G y cc nL ret d (pc + 1) lv (.int (zAR.getD i.toNatClampNeg 0) :: st) h Q) : zV G y cc nL ret d pc lv (.int i :: .ref G.2.2.2.2.1 :: st) h Q := fun p e R s m args below meth c H locs cells slots n0 z0 ls C h1 h2 h3 h4 h5 h6 => by
  obtain ⟨hx, hb, hml, hown, hrt, hlk, hnm, htb, hts, hR, hG, hbs⟩ := C
  exact va_ti hx hb hG.2.2.1.2 h5 hin rfl hd (kk p e R s m args below meth c H locs cells slots n0 z0 ls ⟨hx, hb, hml, hown, hrt, hlk, hnm, htb, hts, hR, hG, hbs⟩ h1 h2 h3 h4 h5 h6)
theorem v_ialoadM {i : Int32} (hd : decode cc pc = .ok (.iaload, 1)) (hin : vp_in i 3) (kk : zV G y cc nL ret d (pc + 1) lv (.int (zMS.getD i.toNatClampNeg 0) :: st) h Q) : zV G y cc nL ret d pc lv (.int i :: .ref G.2.2.2.2.2 :: st) h Q := fun p e R s m args below meth c H locs cells slots n0 z0 ls C h1 h2 h3 h4 h5 h6 => by
  obtain ⟨hx, hb, hml, hown, hrt, hlk, hnm, htb, hts, hR, hG, hbs⟩ := C
  exact va_ti hx hb hG.2.2.2.1.2 h5 hin rfl hd (kk p e R s m args below meth c H locs cells slots n0 z0 ls ⟨hx, hb, hml, hown, hrt, hlk, hnm, htb, hts, hR, hG, hbs⟩ h1 h2 h3 h4 h5 h6)
theorem v_new {idx ci n : Nat} (fs : List Value) (f : zNL y.cls idx ci fs n) (hd : decode cc pc = .ok (.new idx, 3)) (hc1 : h.2.1 + 1 ≤ 50000) (hc2 : h.2.2 + n ≤ 600000) (kk : ∀ q : Nat, h.1 q = none → zV G y cc nL ret d (pc + 3) lv (.ref q :: st) (zup h.1 q (.inr (ci, fs)), h.2.1 + 1, h.2.2 + n) Q) : zV G y cc nL ret d pc lv st h Q := fun p e R s m args below meth c H locs cells slots n0 z0 ls C h1 h2 h3 h4 h5 h6 => by
  obtain ⟨hx, hb, hml, hown, hrt, hlk, hnm, htb, hts, hR, hG, hbs⟩ := C
  obtain ⟨Cn, T, ty0, f1, f2, f3, f4, f5, f6, f7⟩ := f
  obtain ⟨ws, w1, w2, w3⟩ := h4
  refine va_new (D := G.2.1) (cl := zCL) (C := Cn) (T := T) (N := n) (ci := ci) (fs := fs) hx hb hts f2 ty0 f3 hown (hts _ f4) (hts _ f5) (hts _ f6) hG.2.1 w2 w3 h5 (fun q hq => Nat.le_trans hbs hq) f1 f7 ?_ ?_ hd (fun q H9 hP9 hD9 hS9 => kk q (zR.fresh w1 hD9) p e R s m args below meth c H9 locs (cells + 1) (slots + n) n0 z0 ls ⟨hx, hb, hml, hown, hrt, hlk, hnm, htb, hts, hR, hG, hbs⟩ (by show h.2.1 + 1 = n0 + (cells + 1); omega) (by show h.2.2 + n = z0 + (slots + n); omega) ⟨hc1, hc2⟩ ⟨_, zR.new w1, hP9, hD9⟩ hS9 h6)
  · rw [hR]; show cells + 1 ≤ 50000 * (d + 1); omega
  · rw [hR]; show slots + n ≤ 600000 * (d + 1); omega
theorem v_newI {N : Nat} {n : Int32} (hd : decode cc pc = .ok (.newarray .int, 2)) (hw : Cond.arrayClass .int ∈ GT) (hn : ¬ n < 0) (hN : n.toNatClampNeg = N) (hb8 : N ≤ 60000) (hc1 : h.2.1 + 1 ≤ 50000) (hc2 : h.2.2 + N ≤ 600000) (kk : ∀ q : Nat, h.1 q = none → zV G y cc nL ret d (pc + 2) lv (.ref q :: st) (zup h.1 q (.inl (0, N, .inl (fun _ => 0))), h.2.1 + 1, h.2.2 + N) Q) : zV G y cc nL ret d pc lv (.int n :: st) h Q := fun p e R s m args below meth c H locs cells slots n0 z0 ls C h1 h2 h3 h4 h5 h6 => by
  obtain ⟨hx, hb, hml, hown, hrt, hlk, hnm, htb, hts, hR, hG, hbs⟩ := C
  obtain ⟨ws, w1, w2, w3⟩ := h4
  refine va_newa (D := G.2.1) (cl := zCL) (atype := .int) (ty := .int) (a0 := (N, .inl (fun _ => 0))) hx hb (hts _ hw) rfl hG.2.1 w2 w3 h5 (fun q hq => Nat.le_trans hbs hq) (fun cA => rfl) hn hN (zb8 hb8 (by decide)) ?_ ?_ hd (fun q cA H9 hK9 hP9 hD9 hS9 => ?_)
  · rw [hR]; show cells + 1 ≤ 50000 * (d + 1); omega
  · rw [hR]; show slots + N ≤ 600000 * (d + 1); omega
  have eK : cA = G.2.2.1 0 := by
    have e1 := (hK9.2 6 (cA, .int) rfl).2
    have e2 := (hG.2.1.2 0 (G.2.2.1 0, .int) rfl).2
    exact Option.some.inj (Eq.trans (Eq.symm e1) e2)
  subst eK
  exact kk q (zR.fresh w1 hD9) p e R s m args below meth c H9 locs (cells + 1) (slots + N) n0 z0 ls ⟨hx, hb, hml, hown, hrt, hlk, hnm, htb, hts, hR, hG, hbs⟩ (by show h.2.1 + 1 = n0 + (cells + 1); omega) (by show h.2.2 + N = z0 + (slots + N); omega) ⟨hc1, hc2⟩ ⟨_, zR.new w1, hP9, hD9⟩ hS9 h6
theorem v_newC {N : Nat} {n : Int32} (hd : decode cc pc = .ok (.newarray .char, 2)) (hw : Cond.arrayClass .char ∈ GT) (hn : ¬ n < 0) (hN : n.toNatClampNeg = N) (hb8 : N ≤ 60000) (hc1 : h.2.1 + 1 ≤ 50000) (hc2 : h.2.2 + N ≤ 600000) (kk : ∀ q : Nat, h.1 q = none → zV G y cc nL ret d (pc + 2) lv (.ref q :: st) (zup h.1 q (.inl (3, N, .inl (fun _ => 0))), h.2.1 + 1, h.2.2 + N) Q) : zV G y cc nL ret d pc lv (.int n :: st) h Q := fun p e R s m args below meth c H locs cells slots n0 z0 ls C h1 h2 h3 h4 h5 h6 => by
  obtain ⟨hx, hb, hml, hown, hrt, hlk, hnm, htb, hts, hR, hG, hbs⟩ := C
  obtain ⟨ws, w1, w2, w3⟩ := h4
  refine va_newa (D := G.2.1) (cl := zCL) (atype := .char) (ty := .char) (a0 := (N, .inl (fun _ => 0))) hx hb (hts _ hw) rfl hG.2.1 w2 w3 h5 (fun q hq => Nat.le_trans hbs hq) (fun cA => rfl) hn hN (zb8 hb8 (by decide)) ?_ ?_ hd (fun q cA H9 hK9 hP9 hD9 hS9 => ?_)
  · rw [hR]; show cells + 1 ≤ 50000 * (d + 1); omega
  · rw [hR]; show slots + N ≤ 600000 * (d + 1); omega
  have eK : cA = G.2.2.1 3 := by
    have e1 := (hK9.2 6 (cA, .char) rfl).2
    have e2 := (hG.2.1.2 3 (G.2.2.1 3, .char) rfl).2
    exact Option.some.inj (Eq.trans (Eq.symm e1) e2)
  subst eK
  exact kk q (zR.fresh w1 hD9) p e R s m args below meth c H9 locs (cells + 1) (slots + N) n0 z0 ls ⟨hx, hb, hml, hown, hrt, hlk, hnm, htb, hts, hR, hG, hbs⟩ (by show h.2.1 + 1 = n0 + (cells + 1); omega) (by show h.2.2 + N = z0 + (slots + N); omega) ⟨hc1, hc2⟩ ⟨_, zR.new w1, hP9, hD9⟩ hS9 h6
theorem v_newZ {N : Nat} {n : Int32} (hd : decode cc pc = .ok (.newarray .boolean, 2)) (hw : Cond.arrayClass .boolean ∈ GT) (hn : ¬ n < 0) (hN : n.toNatClampNeg = N) (hb8 : N ≤ 60000) (hc1 : h.2.1 + 1 ≤ 50000) (hc2 : h.2.2 + N ≤ 600000) (kk : ∀ q : Nat, h.1 q = none → zV G y cc nL ret d (pc + 2) lv (.ref q :: st) (zup h.1 q (.inl (2, N, .inl (fun _ => 0))), h.2.1 + 1, h.2.2 + N) Q) : zV G y cc nL ret d pc lv (.int n :: st) h Q := fun p e R s m args below meth c H locs cells slots n0 z0 ls C h1 h2 h3 h4 h5 h6 => by
  obtain ⟨hx, hb, hml, hown, hrt, hlk, hnm, htb, hts, hR, hG, hbs⟩ := C
  obtain ⟨ws, w1, w2, w3⟩ := h4
  refine va_newa (D := G.2.1) (cl := zCL) (atype := .boolean) (ty := .boolean) (a0 := (N, .inl (fun _ => 0))) hx hb (hts _ hw) rfl hG.2.1 w2 w3 h5 (fun q hq => Nat.le_trans hbs hq) (fun cA => rfl) hn hN (zb8 hb8 (by decide)) ?_ ?_ hd (fun q cA H9 hK9 hP9 hD9 hS9 => ?_)
  · rw [hR]; show cells + 1 ≤ 50000 * (d + 1); omega
  · rw [hR]; show slots + N ≤ 600000 * (d + 1); omega
  have eK : cA = G.2.2.1 2 := by
    have e1 := (hK9.2 6 (cA, .boolean) rfl).2
    have e2 := (hG.2.1.2 2 (G.2.2.1 2, .boolean) rfl).2
    exact Option.some.inj (Eq.trans (Eq.symm e1) e2)
  subst eK
  exact kk q (zR.fresh w1 hD9) p e R s m args below meth c H9 locs (cells + 1) (slots + N) n0 z0 ls ⟨hx, hb, hml, hown, hrt, hlk, hnm, htb, hts, hR, hG, hbs⟩ (by show h.2.1 + 1 = n0 + (cells + 1); omega) (by show h.2.2 + N = z0 + (slots + N); omega) ⟨hc1, hc2⟩ ⟨_, zR.new w1, hP9, hD9⟩ hS9 h6
theorem v_newJ {N : Nat} {n : Int32} (hd : decode cc pc = .ok (.newarray .long, 2)) (hw : Cond.arrayClass .long ∈ GT) (hn : ¬ n < 0) (hN : n.toNatClampNeg = N) (hb8 : N ≤ 60000) (hc1 : h.2.1 + 1 ≤ 50000) (hc2 : h.2.2 + N ≤ 600000) (kk : ∀ q : Nat, h.1 q = none → zV G y cc nL ret d (pc + 2) lv (.ref q :: st) (zup h.1 q (.inl (1, N, .inr (.inl (fun _ => 0)))), h.2.1 + 1, h.2.2 + N) Q) : zV G y cc nL ret d pc lv (.int n :: st) h Q := fun p e R s m args below meth c H locs cells slots n0 z0 ls C h1 h2 h3 h4 h5 h6 => by
  obtain ⟨hx, hb, hml, hown, hrt, hlk, hnm, htb, hts, hR, hG, hbs⟩ := C
  obtain ⟨ws, w1, w2, w3⟩ := h4
  refine va_newa (D := G.2.1) (cl := zCL) (atype := .long) (ty := .long) (a0 := (N, .inr (.inl (fun _ => 0)))) hx hb (hts _ hw) rfl hG.2.1 w2 w3 h5 (fun q hq => Nat.le_trans hbs hq) (fun cA => rfl) hn hN (zb8 hb8 (by decide)) ?_ ?_ hd (fun q cA H9 hK9 hP9 hD9 hS9 => ?_)
  · rw [hR]; show cells + 1 ≤ 50000 * (d + 1); omega
  · rw [hR]; show slots + N ≤ 600000 * (d + 1); omega
  have eK : cA = G.2.2.1 1 := by
    have e1 := (hK9.2 6 (cA, .long) rfl).2
    have e2 := (hG.2.1.2 1 (G.2.2.1 1, .long) rfl).2
    exact Option.some.inj (Eq.trans (Eq.symm e1) e2)
  subst eK
  exact kk q (zR.fresh w1 hD9) p e R s m args below meth c H9 locs (cells + 1) (slots + N) n0 z0 ls ⟨hx, hb, hml, hown, hrt, hlk, hnm, htb, hts, hR, hG, hbs⟩ (by show h.2.1 + 1 = n0 + (cells + 1); omega) (by show h.2.2 + N = z0 + (slots + N); omega) ⟨hc1, hc2⟩ ⟨_, zR.new w1, hP9, hD9⟩ hS9 h6
theorem v_newL {idx N : Nat} {n : Int32} (hd : decode cc pc = .ok (.anewarray idx, 3)) (hw : Cond.classLink y.cls idx "RingThreads$Line" ∈ GT) (hw2 : Cond.arrayOver (.object "RingThreads$Line") ∈ GT) (hn : ¬ n < 0) (hN : n.toNatClampNeg = N) (hb8 : N ≤ 60000) (hc1 : h.2.1 + 1 ≤ 50000) (hc2 : h.2.2 + N ≤ 600000) (kk : ∀ q : Nat, h.1 q = none → zV G y cc nL ret d (pc + 3) lv (.ref q :: st) (zup h.1 q (.inl (4, N, .inr (.inr (.inr (.inr (fun _ => none)))))), h.2.1 + 1, h.2.2 + N) Q) : zV G y cc nL ret d pc lv (.int n :: st) h Q := fun p e R s m args below meth c H locs cells slots n0 z0 ls C h1 h2 h3 h4 h5 h6 => by
  obtain ⟨hx, hb, hml, hown, hrt, hlk, hnm, htb, hts, hR, hG, hbs⟩ := C
  obtain ⟨ws, w1, w2, w3⟩ := h4
  refine va_newq (D := G.2.1) (cl := zCL) (C := "RingThreads$Line") hx hb hown (hts _ hw) (va_AO.of (hts _ hw2)) hG.2.1 w2 w3 h5 (fun q hq => Nat.le_trans hbs hq) hn hN (by omega) ?_ ?_ hd (fun q cA H9 hK9 hP9 hD9 hS9 => ?_)
  · rw [hR]; show cells + 1 ≤ 50000 * (d + 1); omega
  · rw [hR]; show slots + N ≤ 600000 * (d + 1); omega
  have eK : cA = G.2.2.1 4 := by
    obtain ⟨-, -, -, -, -, e1⟩ := (hK9.2 6 (cA, .object "RingThreads$Line") rfl).2
    obtain ⟨-, -, -, -, -, e2⟩ := (hG.2.1.2 4 (G.2.2.1 4, .object "RingThreads$Line") rfl).2
    exact Option.some.inj (Eq.trans (Eq.symm e1) e2)
  subst eK
  exact kk q (zR.fresh w1 hD9) p e R s m args below meth c H9 locs (cells + 1) (slots + N) n0 z0 ls ⟨hx, hb, hml, hown, hrt, hlk, hnm, htb, hts, hR, hG, hbs⟩ (by show h.2.1 + 1 = n0 + (cells + 1); omega) (by show h.2.2 + N = z0 + (slots + N); omega) ⟨hc1, hc2⟩ ⟨_, zR.new w1, hP9, hD9⟩ hS9 h6
theorem v_newR {idx N : Nat} {n : Int32} (hd : decode cc pc = .ok (.anewarray idx, 3)) (hw : Cond.classLink y.cls idx "RingThreads$Ring" ∈ GT) (hw2 : Cond.arrayOver (.object "RingThreads$Ring") ∈ GT) (hn : ¬ n < 0) (hN : n.toNatClampNeg = N) (hb8 : N ≤ 60000) (hc1 : h.2.1 + 1 ≤ 50000) (hc2 : h.2.2 + N ≤ 600000) (kk : ∀ q : Nat, h.1 q = none → zV G y cc nL ret d (pc + 3) lv (.ref q :: st) (zup h.1 q (.inl (5, N, .inr (.inr (.inr (.inr (fun _ => none)))))), h.2.1 + 1, h.2.2 + N) Q) : zV G y cc nL ret d pc lv (.int n :: st) h Q := fun p e R s m args below meth c H locs cells slots n0 z0 ls C h1 h2 h3 h4 h5 h6 => by
  obtain ⟨hx, hb, hml, hown, hrt, hlk, hnm, htb, hts, hR, hG, hbs⟩ := C
  obtain ⟨ws, w1, w2, w3⟩ := h4
  refine va_newq (D := G.2.1) (cl := zCL) (C := "RingThreads$Ring") hx hb hown (hts _ hw) (va_AO.of (hts _ hw2)) hG.2.1 w2 w3 h5 (fun q hq => Nat.le_trans hbs hq) hn hN (by omega) ?_ ?_ hd (fun q cA H9 hK9 hP9 hD9 hS9 => ?_)
  · rw [hR]; show cells + 1 ≤ 50000 * (d + 1); omega
  · rw [hR]; show slots + N ≤ 600000 * (d + 1); omega
  have eK : cA = G.2.2.1 5 := by
    obtain ⟨-, -, -, -, -, e1⟩ := (hK9.2 6 (cA, .object "RingThreads$Ring") rfl).2
    obtain ⟨-, -, -, -, -, e2⟩ := (hG.2.1.2 5 (G.2.2.1 5, .object "RingThreads$Ring") rfl).2
    exact Option.some.inj (Eq.trans (Eq.symm e1) e2)
  subst eK
  exact kk q (zR.fresh w1 hD9) p e R s m args below meth c H9 locs (cells + 1) (slots + N) n0 z0 ls ⟨hx, hb, hml, hown, hrt, hlk, hnm, htb, hts, hR, hG, hbs⟩ (by show h.2.1 + 1 = n0 + (cells + 1); omega) (by show h.2.2 + N = z0 + (slots + N); omega) ⟨hc1, hc2⟩ ⟨_, zR.new w1, hP9, hD9⟩ hS9 h6
end ZHEAP
end
section
theorem zsum {f : Cell → Nat} {l l' : List Cell} {k : Nat} (hlen : l.length ≤ l'.length) (hk : k ≤ l.length) (hsz : ∀ (i : Nat) (c : Cell), l[i]? = some c → ∃ c', l'[i]? = some c' ∧ f c' = f c) : ((l'.drop k).map f).sum = ((l.drop k).map f).sum + ((l'.drop l.length).map f).sum := by
  have e : (l'.take l.length).map f = l.map f := by
    apply List.ext_getElem?
    intro i
    rw [List.getElem?_map, List.getElem?_map]
    by_cases hi : i < l.length
    · obtain ⟨c', h1, h2⟩ := hsz i _ (List.getElem?_eq_getElem hi)
      rw [List.getElem?_take_of_lt hi, h1, List.getElem?_eq_getElem hi]
      show some (f c') = some (f _)
      rw [h2]
    · have h1 : l[i]? = none := List.getElem?_eq_none (by omega)
      have h2 : (l'.take l.length)[i]? = none := List.getElem?_eq_none (by rw [List.length_take]; omega)
      rw [h1, h2]
  have hd : l'.drop k = (l'.take l.length).drop k ++ l'.drop l.length := by
    conv => lhs; rw [← List.take_append_drop l.length l']
    rw [List.drop_append_of_le_length (by rw [List.length_take]; omega)]
  rw [hd, List.map_append, List.sum_append, List.map_drop, e, ← List.map_drop]
theorem ztight {p : Program} {l : Launch} {e : Env} {R : Room} {s : State} {m : MethodId} {args : Array Value} {below : List Frame} {meth : Method} {c : Code} {T T' : State} {locs locs' : List Loc} {cells slots cells' slots' : Nat}
    (X : Stand p l e R s m args below meth c T locs cells slots) (X' : Stand p l e R s m args below meth c T' locs' cells' slots') {st t : State} {L : List Loc} {k n : Nat} (hs : st.sameButNew ({ t with vm := st.vm } : State) L k n) (e0 : st.heap = T.heap) (e1 : T'.heap = t.heap) :
    Stand p l e R s m args below meth c T' locs' (cells + k) (slots + n) := by
  obtain ⟨a1, a2, a3, a4, a5, a6⟩ := X.same
  obtain ⟨b1, b2, b3, b4, b5, b6⟩ := X'.same
  obtain ⟨c1, c2, c3, c4, c5, c6⟩ := hs
  refine { X' with same := ⟨b1, b2, ?_, b4, ?_, b6⟩ }
  · show T'.heap.size ≤ s.heap.size + (cells + k)
    have a3 : T.heap.size ≤ s.heap.size + cells := a3
    have c3 : t.heap.size ≤ st.heap.size + k := c3
    rw [e0] at c3
    rw [e1]
    omega
  · show ((T'.heap.toList.drop s.heap.size).map (·.slots.size)).sum ≤ slots + n
    have a5 : ((T.heap.toList.drop s.heap.size).map (·.slots.size)).sum ≤ slots := a5
    have c5 : ((t.heap.toList.drop st.heap.size).map (·.slots.size)).sum ≤ n := c5
    have a2 : s.heap.size ≤ T.heap.size := a2
    have c2 : st.heap.size ≤ t.heap.size := c2
    rw [e0] at c5 c2
    rw [e1]
    have hz := zsum (f := fun c => c.slots.size) (l := T.heap.toList) (l' := t.heap.toList) (k := s.heap.size) (by simpa using c2) (by simpa using a2) (fun i c hi => by
      have hi' : st.heap[i]? = some c := by rw [e0]; simpa using hi
      obtain ⟨c', q1, q2, q3, q4⟩ := c6 i c hi'
      exact ⟨c', by simpa using q1, q3⟩)
    have hl : T.heap.toList.length = T.heap.size := by simp
    rw [hl] at hz
    rw [hz]
    omega
theorem zroomle {h : zH} {n0 cells z0 slots d : Nat} (h1 : h.2.1 = n0 + cells) (h2 : h.2.2 = z0 + slots) (h3 : zcap h) : cells ≤ 50000 * (d + 1) ∧ slots ≤ 600000 * (d + 1) := by
  have := h3.1
  have := h3.2
  omega
/-- a return, as the method's end wants it -/
theorem zend {G : zW} {below : List Frame} {Q : zOut → zH → Prop} {s : State} {args : Array Value} {H : Heap} {locs : List Loc} {cells slots n0 z0 d : Nat} {h : zH} {v : Option Value} (hQ : Q (.inl v) h) (h1 : h.2.1 = n0 + cells) (h2 : h.2.2 = z0 + slots) (h3 : zcap h) (h4 : zR G h.1 H) (h5 : va_S (zA G) s.heap H locs) :
    ∀ t, MQ below (fun _ _ o t => o = .returned v ∧ t.heap = H) args s cells slots (zA G) t → vx_MQ below (zQ G Q n0 z0) (zX G Q n0 z0) args s (50000 * (d + 1)) (600000 * (d + 1)) (zA G) t := by
  rintro t ⟨o, a1, a2, ⟨rfl, a3⟩, L, ⟨b1, b2, b3⟩, b4⟩
  obtain ⟨g1, g2⟩ := zroomle (d := d) h1 h2 h3
  exact ⟨_, a1, a2, Or.inl ⟨⟨v, h, cells, slots, L, rfl, hQ, by rw [a3]; exact h4, h1, h2, h3, b3, b4, h5.F a3⟩, L, ⟨b1, b2, b3.mono g1 g2⟩, b4⟩⟩
section ZCALL
variable {G : zW} {y : MethodName} {cc : ByteArray} {nL : Nat} {ret : Option FieldType} {d : Nat} {pc : Nat} {lv : List (Nat × Value)} {st : List Value} {h : zH} {Q : zOut → zH → Prop}
theorem v_ireturn {x : Int32} (hd : decode cc pc = .ok (.ireturn, 1)) (hr : ret = some .int) (hQ : Q (.inl (some (.int x))) h) : zV G y cc nL ret d pc lv [.int x] h Q := fun p e R s m args below meth c H locs cells slots n0 z0 ls C h1 h2 h3 h4 h5 h6 => by
  obtain ⟨hx, hb, hml, hown, hrt, hlk, hnm, htb, hts, hR, hG, hbs⟩ := C
  exact W.mono (zend hQ h1 h2 h3 h4 h5) (W.iret hx hb (hrt.trans hr) (fun t ht hW => ⟨rfl, ht⟩) h5.2.2 hd hlk)
theorem v_zreturn {x : Int32} (hd : decode cc pc = .ok (.ireturn, 1)) (hr : ret = some .boolean) (hn : narrow .boolean (.int x) = .int x) (hQ : Q (.inl (some (.int x))) h) : zV G y cc nL ret d pc lv [.int x] h Q := fun p e R s m args below meth c H locs cells slots n0 z0 ls C h1 h2 h3 h4 h5 h6 => by
  obtain ⟨hx, hb, hml, hown, hrt, hlk, hnm, htb, hts, hR, hG, hbs⟩ := C
  exact W.mono (zend hQ h1 h2 h3 h4 h5) (W.zret hx hb (hrt.trans hr) hn (fun t ht hW => ⟨rfl, ht⟩) h5.2.2 hd hlk)
theorem v_lreturn {x : Int64} (hd : decode cc pc = .ok (.lreturn, 1)) (hr : ret = some .long) (hQ : Q (.inl (some (.long x))) h) : zV G y cc nL ret d pc lv [.long x] h Q := fun p e R s m args below meth c H locs cells slots n0 z0 ls C h1 h2 h3 h4 h5 h6 => by
  obtain ⟨hx, hb, hml, hown, hrt, hlk, hnm, htb, hts, hR, hG, hbs⟩ := C
  exact W.mono (zend hQ h1 h2 h3 h4 h5) (W.lret hx hb (hrt.trans hr) (fun t ht hW => ⟨rfl, ht⟩) h5.2.2 hd hlk)
theorem v_dreturn {x : UInt64} (hd : decode cc pc = .ok (.dreturn, 1)) (hr : ret = some .double) (hQ : Q (.inl (some (.double x))) h) : zV G y cc nL ret d pc lv [.double x] h Q := fun p e R s m args below meth c H locs cells slots n0 z0 ls C h1 h2 h3 h4 h5 h6 => by
  obtain ⟨hx, hb, hml, hown, hrt, hlk, hnm, htb, hts, hR, hG, hbs⟩ := C
  exact W.mono (zend hQ h1 h2 h3 h4 h5) (W.dret hx hb (hrt.trans hr) (fun t ht hW => ⟨rfl, ht⟩) h5.2.2 hd hlk)
theorem v_areturn {x : Nat} {rt : FieldType} (hd : decode cc pc = .ok (.areturn, 1)) (hr : ret = some rt) (hrf : (∃ n, rt = .object n) ∨ ∃ t, rt = .array t) (hQ : Q (.inl (some (.ref x))) h) : zV G y cc nL ret d pc lv [.ref x] h Q := fun p e R s m args below meth c H locs cells slots n0 z0 ls C h1 h2 h3 h4 h5 h6 => by
  obtain ⟨hx, hb, hml, hown, hrt, hlk, hnm, htb, hts, hR, hG, hbs⟩ := C
  exact W.mono (zend hQ h1 h2 h3 h4 h5) (W.aret hx hb (hrt.trans hr) hrf (Or.inr ⟨x, rfl⟩) (fun t ht hW => ⟨rfl, ht⟩) h5.2.2 hd hlk)
theorem v_return (hd : decode cc pc = .ok (.return_, 1)) (hr : ret = none) (hQ : Q (.inl none) h) : zV G y cc nL ret d pc lv [] h Q := fun p e R s m args below meth c H locs cells slots n0 z0 ls C h1 h2 h3 h4 h5 h6 => by
  obtain ⟨hx, hb, hml, hown, hrt, hlk, hnm, htb, hts, hR, hG, hbs⟩ := C
  exact W.mono (zend hQ h1 h2 h3 h4 h5) (W.vret hx hb (hrt.trans hr) (fun t ht hW => ⟨rfl, ht⟩) h5.2.2 hd hlk)
/-- what follows a call -/
theorem zcall {p : Program} {e : Env} {R : Room} {s : State} {m : MethodId} {args : Array Value} {below : List Frame} {meth : Method} {c : Code} {H : Heap} {locs : List Loc} {cells slots n0 z0 : Nat} {ls : Array Slot} {stk rest : List Value} {a : Array Value} {Qc : zOut → zH → Prop} {MC MS : Nat}
    (C : zC G y cc nL ret d p R s m args meth c) (h1 : h.2.1 = n0 + cells) (h2 : h.2.2 = z0 + slots) (h5 : va_S (zA G) s.heap H locs) (h6 : lv_has ls nL lv)
    (hr : vx_Run p G.1 e R s m args below meth c H locs cells slots MC MS (F0 m pc ls stk) rest (zQ G Qc h.2.1 h.2.2 a) (zX G Qc h.2.1 h.2.2) (zA G))
    (kr : ∀ (v : Option Value) (h9 : zH), Qc (.inl v) h9 → zV G y cc nL ret d (pc + 3) lv (v.toList ++ rest) h9 Q) (kx : ∀ (E : String) (h9 : zH), Qc (.inr E) h9 → Q (.inr E) h9) :
    W p G.1 e R s m args below meth c H locs cells slots (vx_MQ below (zQ G Q n0 z0) (zX G Q n0 z0) args s (50000 * (d + 1)) (600000 * (d + 1)) (zA G)) (F0 m pc ls stk) := by
  intro T hT X
  have hSz : ∀ {st t : State} {L : List Loc} {T' : State}, st.heap = H → T'.heap = t.heap → (∀ q ∈ L, zA G q.base) → va_F (zA G) st t → va_S (zA G) s.heap T'.heap (locs ++ L) := by
    intro st t L T' e0 e1 hL hF
    refine ⟨?_, fun q q1 q2 => ?_, fun z hz => (List.mem_append.mp hz).elim (h5.2.2 z) (hL z)⟩
    · rw [e1]; exact Nat.le_trans h5.1 (by rw [← e0]; exact hF.1)
    · rw [e1, hF.2 q (by rw [e0]; exact Nat.lt_of_lt_of_le q1 h5.1) q2, e0]; exact h5.2.1 q q1 q2
  rcases hr T hT X with ⟨v, st₀, t, T', L, e0, X', hL, e1, e2, hq, hg⟩ | ⟨q, st₀, t, T', L, E, ce, e0, X', hL, e1, e2, hx9, hce, hcv, hcl, hst⟩
  · obtain ⟨v', h9, k, n, L', ho, hQ, hRep, c1, c2, hcap, hsame, hL', hF⟩ := hq
    cases ho
    have X2 := ztight X X' hsame (by rw [e0, hT]) e1
    obtain ⟨t2, a1, b1⟩ := kr v h9 hQ p e R s m args below meth c T'.heap (locs ++ L) (cells + k) (slots + n) n0 z0 ls C (by rw [c1, h1]; omega) (by rw [c2, h2]; omega) hcap (by rw [e1]; exact hRep) (hSz e0 e1 hL hF) h6 T' rfl X2
    exact ⟨t2, hg t2 a1, b1⟩
  · obtain ⟨h9, k, n, L', hQ, hRep, c1, c2, hcap, hsame, hL', hF⟩ := hx9
    have X2 := ztight X X' hsame (by rw [e0, hT]) e1
    have hS9 := hSz e0 e1 hL hF
    obtain ⟨g1, g2⟩ := zroomle (d := d) (h := h9) (n0 := n0) (cells := cells + k) (z0 := z0) (slots := slots + n) (by rw [c1, h1]; omega) (by rw [c2, h2]; omega) hcap
    obtain ⟨t2, a1, o, b1, b2, b3⟩ := vx_out (Qc := fun _ _ _ _ => False) (XC := fun E' st t => E' = E ∧ t.heap = T'.heap) (rest := rest) (free := zA G) (mc := cells + k) (ms := slots + n) (args := args) (below := below) (pc := pc) (ls := ls) (fun x hx => (C.2.2.2.2.2.2.2.1 x hx).elim) C.2.2.2.2.2.1 (by rw [e1]; exact hce) hcv hcl (fun t ht hA => ⟨rfl, ht⟩) hS9.2.2 (Nat.le_refl _) (Nat.le_refl _) T' rfl X2
    refine ⟨t2, hst.trans a1, o, b1, b2, ?_⟩
    rcases b3 with ⟨b3, -⟩ | ⟨q2, rfl, E2, ce2, L2, ⟨rfl, d1⟩, d2, d3, d4, d5, d6, d7⟩
    · exact b3.elim
    · refine Or.inr ⟨q2, rfl, E2, ce2, L2, ⟨h9, cells + k, slots + n, L2, kx _ _ hQ, by rw [d1, e1]; exact hRep, by rw [c1, h1]; omega, by rw [c2, h2]; omega, hcap, d6, d7, hS9.F d1⟩, d2, d3, d4, d5, d6.mono g1 g2, d7⟩
/-- the words of a call -/
def zCS (own : String) (idx : Nat) (y' : MethodName) (cc' : ByteArray) (nL' : Nat) (ret' : Option FieldType) (n : Nat) : Prop :=
  Cond.methodLink own idx y' ∈ GT ∧ Cond.initialized y'.cls ∈ GT ∧ Cond.code y' cc' nL' ret' ∈ GT ∧ nL' ≤ 15 ∧ y'.cls ≠ "java/lang/invoke/MethodHandle" ∧ y'.cls ≠ "java/lang/invoke/VarHandle" ∧ (parseMethodDescriptor y'.desc).map (fun d => d.parameters.length) = some n
theorem zgood {y' : MethodName} {cc' : ByteArray} {nL' : Nat} {ret' : Option FieldType} {l : List Cond} (h : ∀ w ∈ l, w ∈ GT) (hc : Cond.code y' cc' nL' ret' ∈ GT) : GoodIn GT (l ++ (Cond.code y' cc' nL' ret' :: GT)) := by
  intro w hw
  have hm : w ∈ GT := by
    rcases List.mem_append.mp hw with h1 | h1
    · exact h w h1
    · rcases List.mem_cons.mp h1 with rfl | h2
      · exact hc
      · exact h2
  exact ⟨hm, good_of_word (GT_good hm)⟩
theorem zblind {as : List Value} {h9 : zH} : FrameBlind (zPc G as h9) := fun a U g mk ⟨q1, q2, q3, q4, q5⟩ =>
  ⟨q1, zG.moved (s := U) (U := U.calling g mk a) (State.WarmedH.refl U) q2, q3, q4, q5⟩
theorem zpre {s : State} {H : Heap} {locs : List Loc} {as : List Value} (hG : zG G s s.heap) (h4 : zR G h.1 H) (h3 : zcap h) (h5 : va_S (zA G) s.heap H locs) (hbs : G.2.2.2.1 ≤ s.heap.size) : PreS s H (zPc G as h) as :=
  ⟨zblind, fun U hU hW => ⟨rfl, by rw [hU]; exact (hG.kept h5.2.1).moved hW, by rw [hU]; exact h4, h3, by rw [hU]; exact Nat.le_trans hbs h5.1⟩⟩
theorem v_callS {idx n d' nL' : Nat} {y' : MethodName} {cc' : ByteArray} {ret' : Option FieldType} {as rest : List Value} {Qc : zOut → zH → Prop} (hc : zCS y.cls idx y' cc' nL' ret' n) (hst : Cond.static y' ∈ GT) (hd : decode cc pc = .ok (.invokestatic idx, 3)) (hM : zM G y' cc' nL' ret' d' as h Qc) (hs : st = as.reverse ++ rest) (hn : as.length = n) (hdd : d' + 1 ≤ d) (hW : (rest.map fun v => v.category).sum ≤ 8)
    (kr : ∀ (v : Option Value) (h9 : zH), Qc (.inl v) h9 → zV G y cc nL ret d (pc + 3) lv (v.toList ++ rest) h9 Q) (kx : ∀ (E : String) (h9 : zH), Qc (.inr E) h9 → Q (.inr E) h9) : zV G y cc nL ret d pc lv st h Q := fun p e R s m args below meth c H locs cells slots n0 z0 ls C h1 h2 h3 h4 h5 h6 => by
  obtain ⟨hx, hb, hml, hown, hrt, hlk, hnm, htb, hts, hR, hG, hbs⟩ := C
  obtain ⟨c1, c2, c3, c4, c5, c6, c7⟩ := hc
  obtain ⟨hq1, hq2⟩ := h3
  refine zcall ⟨hx, hb, hml, hown, hrt, hlk, hnm, htb, hts, hR, hG, hbs⟩ h1 h2 h5 h6 (vx_runS (As := as) (rest := rest) ⟨hx, hb, hml, hown, hts⟩ hM (va_cwS n hts (zgood (by simp [c1, hst, c2]) c3) rfl rfl rfl ⟨c5, c6, c7⟩ ?_) (zpre hG h4 ⟨hq1, hq2⟩ h5 hbs) rfl hn h6.1 hs (by show 2 * 0 + _ ≤ 8; omega) hd ?_) kr kx
  · rw [hR]; exact ⟨hdd, by show 8 + (nL' + 11) + 34 * d' ≤ 34 * d; omega⟩
  · rw [hR]; exact ⟨by show cells + 50000 * (d' + 1) ≤ 50000 * (d + 1); omega, by show slots + 600000 * (d' + 1) ≤ 600000 * (d + 1); omega⟩
theorem v_callV {idx n d' nL' b ci : Nat} {vs : List Value} {y' : MethodName} {cc' : ByteArray} {ret' : Option FieldType} {as rest : List Value} {Qc : zOut → zH → Prop} (hc : zCS y.cls idx y' cc' nL' ret' n) (hin : Cond.instanceMethod y' ∈ GT) (hse : Cond.selects y'.cls y' y' ∈ GT) (hci : zCL[ci]?.map (fun q => q.1) = some y'.cls) (hd : decode cc pc = .ok (.invokevirtual idx, 3)) (hbv : h.1 b = some (.inr (ci, vs))) (hM : zM G y' cc' nL' ret' d' (.ref b :: as) h Qc) (hs : st = as.reverse ++ .ref b :: rest) (hn : as.length = n) (hdd : d' + 1 ≤ d) (hW : (rest.map fun v => v.category).sum ≤ 8)
    (kr : ∀ (v : Option Value) (h9 : zH), Qc (.inl v) h9 → zV G y cc nL ret d (pc + 3) lv (v.toList ++ rest) h9 Q) (kx : ∀ (E : String) (h9 : zH), Qc (.inr E) h9 → Q (.inr E) h9) : zV G y cc nL ret d pc lv st h Q := fun p e R s m args below meth c H locs cells slots n0 z0 ls C h1 h2 h3 h4 h5 h6 => by
  obtain ⟨hx, hb, hml, hown, hrt, hlk, hnm, htb, hts, hR, hG, hbs⟩ := C
  obtain ⟨c1, c2, c3, c4, c5, c6, c7⟩ := hc
  obtain ⟨hq1, hq2⟩ := h3
  have hp := zpre (as := .ref b :: as) hG h4 ⟨hq1, hq2⟩ h5 hbs
  obtain ⟨ws, w1, w2, w3, q0, hq⟩ := h4.at hbv
  have hrec : ∃ cell : Cell, H[b]? = some cell ∧ cell.vm.isStatics = false ∧ s.vm.findClass y'.cls = some cell.cls := by
    cases hz : zCL[ci]? with
    | none => rw [hz] at hci; cases hci
    | some r =>
      rw [hz] at hci
      have e9 : r.1 = y'.cls := Option.some.inj hci
      rw [← e9]
      exact va_recv hG.2.1 w2 hz hq
  refine zcall ⟨hx, hb, hml, hown, hrt, hlk, hnm, htb, hts, hR, hG, hbs⟩ h1 h2 h5 h6 (vx_runV (As := as) (rest := rest) (C := y'.cls) ⟨hx, hb, hml, hown, hts⟩ hM (cwV n hts (zgood (by simp [c1, hin, hse, c2]) c3) rfl rfl rfl ⟨rfl, c5, c6, c7⟩ ?_) ⟨hp.1, hrec, hp.2⟩ rfl hn h6.1 hs (by show 2 * 0 + _ ≤ 8; omega) hd ?_) kr kx
  · rw [hR]; exact ⟨hdd, by show 8 + (nL' + 11) + 34 * d' ≤ 34 * d; omega⟩
  · rw [hR]; exact ⟨by show cells + 50000 * (d' + 1) ≤ 50000 * (d + 1); omega, by show slots + 600000 * (d' + 1) ≤ 600000 * (d + 1); omega⟩
/-- a contract out of the walk from the method's entry -/
theorem zM.of {as : List Value} (hy : plainName y.cls = true) (hl : (lg_sl as).length ≤ nL) (k : zV G y cc nL ret d 0 (lv_args 0 as) [] h Q) : zM G y cc nL ret d as h Q := by
  refine vx_ofW (cc := cc) (maxL := nL) (ret := ret) hy rfl ?_
  intro p e s m args below meth c s₁ B hml htab hPc
  obtain ⟨rfl, hG, hR, hcap, hbs⟩ := hPc
  rw [lg_entry_eq]
  exact k p e (zroom d) s m as.toArray below meth c s.heap [] 0 0 h.2.1 h.2.2 _ ⟨B.exec, B.bytes, hml, findClass_of_methodNamed B.named, B.returns, B.notSynchronized, (name_of_methodNamed B.named B.method).1, htab, fun w hw => atoms_spec (ws := .code y cc nL ret :: GT) B.pre w (List.mem_cons_of_mem _ hw), rfl, hG, hbs⟩ rfl rfl hcap hR va_S.rf (lv_entry as hl)
theorem zM.mono {as : List Value} {Q' : zOut → zH → Prop} (hq : ∀ o h, Q o h → Q' o h) (k : zM G y cc nL ret d as h Q) : zM G y cc nL ret d as h Q' := by
  intro p e ha hc hk s m args below hf happ hP hK
  obtain ⟨n, o, a1, a2, a3, a4⟩ := k p e ha hc hk s m args below hf happ hP hK
  refine ⟨n, o, a1, a2, a3, ?_⟩
  rcases a4 with ⟨⟨v, h9, k9, n9, L, b1, b2, b3⟩, b4⟩ | ⟨q, b1, E, ce, L, ⟨h9, k9, n9, L9, c1, c2⟩, b2⟩
  · exact Or.inl ⟨⟨v, h9, k9, n9, L, b1, hq _ _ b2, b3⟩, b4⟩
  · exact Or.inr ⟨q, b1, E, ce, L, ⟨h9, k9, n9, L9, hq _ _ c1, c2⟩, b2⟩
end ZCALL
end
