-- ===== PART A: goes FIRST, ahead of the names: the tables' words, and 'selects' of the private methods out of them =====
/-- a private method of a class that the tables say can be made, by its rows of tables_1 -/
def lw_okq (q : MethodName × Nat) : Prop := (q.1.cls ≠ "java/lang/invoke/MethodHandle" ∧ q.1.cls ≠ "java/lang/invoke/VarHandle") ∧ Cond.instantiable q.1.cls q.2 ∈ tables_1 ∧ Cond.privateMethod q.1 ∈ tables_1 ∧ Cond.instanceMethod q.1 ∈ tables_1
theorem lw_p0 : lw_okq (⟨"WindowCache", "ask", "(I)I"⟩, 15) := ⟨⟨by decide +kernel, by decide +kernel⟩, List.mem_of_getElem? (i := 21) (by decide +kernel), List.mem_of_getElem? (i := 275) (by decide +kernel), List.mem_of_getElem? (i := 276) (by decide +kernel)⟩
theorem lw_p1 : lw_okq (⟨"WindowCache", "isSeen", "(LWindowCache$Entry;)Z"⟩, 15) := ⟨⟨by decide +kernel, by decide +kernel⟩, List.mem_of_getElem? (i := 21) (by decide +kernel), List.mem_of_getElem? (i := 298) (by decide +kernel), List.mem_of_getElem? (i := 299) (by decide +kernel)⟩
theorem lw_p2 : lw_okq (⟨"WindowCache", "dropFromMap", "(LWindowCache$Entry;I)V"⟩, 15) := ⟨⟨by decide +kernel, by decide +kernel⟩, List.mem_of_getElem? (i := 21) (by decide +kernel), List.mem_of_getElem? (i := 306) (by decide +kernel), List.mem_of_getElem? (i := 307) (by decide +kernel)⟩
theorem lw_p3 : lw_okq (⟨"WindowCache", "tidy", "()V"⟩, 15) := ⟨⟨by decide +kernel, by decide +kernel⟩, List.mem_of_getElem? (i := 21) (by decide +kernel), List.mem_of_getElem? (i := 318) (by decide +kernel), List.mem_of_getElem? (i := 319) (by decide +kernel)⟩
theorem lw_p4 : lw_okq (⟨"WindowCache", "takeNotes", "(LWindowCache$Notes;)V"⟩, 15) := ⟨⟨by decide +kernel, by decide +kernel⟩, List.mem_of_getElem? (i := 21) (by decide +kernel), List.mem_of_getElem? (i := 322) (by decide +kernel), List.mem_of_getElem? (i := 323) (by decide +kernel)⟩
theorem lw_p5 : lw_okq (⟨"WindowCache", "takeTasks", "()V"⟩, 15) := ⟨⟨by decide +kernel, by decide +kernel⟩, List.mem_of_getElem? (i := 21) (by decide +kernel), List.mem_of_getElem? (i := 364) (by decide +kernel), List.mem_of_getElem? (i := 365) (by decide +kernel)⟩
theorem lw_p6 : lw_okq (⟨"WindowCache", "expire", "()V"⟩, 15) := ⟨⟨by decide +kernel, by decide +kernel⟩, List.mem_of_getElem? (i := 21) (by decide +kernel), List.mem_of_getElem? (i := 373) (by decide +kernel), List.mem_of_getElem? (i := 374) (by decide +kernel)⟩
theorem lw_p7 : lw_okq (⟨"WindowCache", "evict", "(LWindowCache$Entry;)V"⟩, 15) := ⟨⟨by decide +kernel, by decide +kernel⟩, List.mem_of_getElem? (i := 21) (by decide +kernel), List.mem_of_getElem? (i := 400) (by decide +kernel), List.mem_of_getElem? (i := 401) (by decide +kernel)⟩
theorem lw_p8 : lw_okq (⟨"WindowCache", "loserOf", "(LWindowCache$Entry;LWindowCache$Entry;)LWindowCache$Entry;"⟩, 15) := ⟨⟨by decide +kernel, by decide +kernel⟩, List.mem_of_getElem? (i := 21) (by decide +kernel), List.mem_of_getElem? (i := 412) (by decide +kernel), List.mem_of_getElem? (i := 413) (by decide +kernel)⟩
theorem lw_p9 : lw_okq (⟨"WindowCache", "nextDraw", "()I"⟩, 15) := ⟨⟨by decide +kernel, by decide +kernel⟩, List.mem_of_getElem? (i := 21) (by decide +kernel), List.mem_of_getElem? (i := 421) (by decide +kernel), List.mem_of_getElem? (i := 422) (by decide +kernel)⟩
theorem lw_p10 : lw_okq (⟨"WindowCache", "climbIfDue", "()V"⟩, 15) := ⟨⟨by decide +kernel, by decide +kernel⟩, List.mem_of_getElem? (i := 21) (by decide +kernel), List.mem_of_getElem? (i := 425) (by decide +kernel), List.mem_of_getElem? (i := 426) (by decide +kernel)⟩
theorem lw_p11 : lw_okq (⟨"WindowCache", "entriesInMap", "(Z)I"⟩, 15) := ⟨⟨by decide +kernel, by decide +kernel⟩, List.mem_of_getElem? (i := 21) (by decide +kernel), List.mem_of_getElem? (i := 482) (by decide +kernel), List.mem_of_getElem? (i := 483) (by decide +kernel)⟩
theorem lw_p12 : lw_okq (⟨"WindowCache", "keysOnTheirWay", "()I"⟩, 15) := ⟨⟨by decide +kernel, by decide +kernel⟩, List.mem_of_getElem? (i := 21) (by decide +kernel), List.mem_of_getElem? (i := 486) (by decide +kernel), List.mem_of_getElem? (i := 487) (by decide +kernel)⟩
theorem lw_p13 : lw_okq (⟨"java/lang/Throwable", "fillInStackTrace", "(I)Ljava/lang/Throwable;"⟩, 6) := ⟨⟨by decide +kernel, by decide +kernel⟩, List.mem_of_getElem? (i := 561) (by decide +kernel), List.mem_of_getElem? (i := 559) (by decide +kernel), List.mem_of_getElem? (i := 560) (by decide +kernel)⟩
theorem lw_p14 : lw_okq (⟨"WindowCache", "store", "(IIII)Z"⟩, 15) := ⟨⟨by decide +kernel, by decide +kernel⟩, List.mem_of_getElem? (i := 21) (by decide +kernel), List.mem_of_getElem? (i := 586) (by decide +kernel), List.mem_of_getElem? (i := 587) (by decide +kernel)⟩
theorem lw_p15 : lw_okq (⟨"WindowCache", "fill", "(LWindowCache$Entry;III)V"⟩, 15) := ⟨⟨by decide +kernel, by decide +kernel⟩, List.mem_of_getElem? (i := 21) (by decide +kernel), List.mem_of_getElem? (i := 590) (by decide +kernel), List.mem_of_getElem? (i := 591) (by decide +kernel)⟩
def lw_privs_1 : List (MethodName × Nat) := [(⟨"WindowCache", "ask", "(I)I"⟩, 15), (⟨"WindowCache", "isSeen", "(LWindowCache$Entry;)Z"⟩, 15), (⟨"WindowCache", "dropFromMap", "(LWindowCache$Entry;I)V"⟩, 15), (⟨"WindowCache", "tidy", "()V"⟩, 15), (⟨"WindowCache", "takeNotes", "(LWindowCache$Notes;)V"⟩, 15), (⟨"WindowCache", "takeTasks", "()V"⟩, 15), (⟨"WindowCache", "expire", "()V"⟩, 15), (⟨"WindowCache", "evict", "(LWindowCache$Entry;)V"⟩, 15), (⟨"WindowCache", "loserOf", "(LWindowCache$Entry;LWindowCache$Entry;)LWindowCache$Entry;"⟩, 15), (⟨"WindowCache", "nextDraw", "()I"⟩, 15), (⟨"WindowCache", "climbIfDue", "()V"⟩, 15), (⟨"WindowCache", "entriesInMap", "(Z)I"⟩, 15), (⟨"WindowCache", "keysOnTheirWay", "()I"⟩, 15), (⟨"java/lang/Throwable", "fillInStackTrace", "(I)Ljava/lang/Throwable;"⟩, 6), (⟨"WindowCache", "store", "(IIII)Z"⟩, 15), (⟨"WindowCache", "fill", "(LWindowCache$Entry;III)V"⟩, 15)]
theorem lw_r1 : ∀ q ∈ lw_privs_1, lw_okq q := List.forall_mem_cons.mpr ⟨lw_p0, List.forall_mem_cons.mpr ⟨lw_p1, List.forall_mem_cons.mpr ⟨lw_p2, List.forall_mem_cons.mpr ⟨lw_p3, List.forall_mem_cons.mpr ⟨lw_p4, List.forall_mem_cons.mpr ⟨lw_p5, List.forall_mem_cons.mpr ⟨lw_p6, List.forall_mem_cons.mpr ⟨lw_p7, List.forall_mem_cons.mpr ⟨lw_p8, List.forall_mem_cons.mpr ⟨lw_p9, List.forall_mem_cons.mpr ⟨lw_p10, List.forall_mem_cons.mpr ⟨lw_p11, List.forall_mem_cons.mpr ⟨lw_p12, List.forall_mem_cons.mpr ⟨lw_p13, List.forall_mem_cons.mpr ⟨lw_p14, List.forall_mem_cons.mpr ⟨lw_p15, fun _ h => absurd h List.not_mem_nil⟩⟩⟩⟩⟩⟩⟩⟩⟩⟩⟩⟩⟩⟩⟩⟩
theorem lw_p16 : lw_okq (⟨"WindowCache", "isWelcome", "(LWindowCache$Way;I)Z"⟩, 15) := ⟨⟨by decide +kernel, by decide +kernel⟩, List.mem_of_getElem? (i := 21) (by decide +kernel), List.mem_of_getElem? (i := 679) (by decide +kernel), List.mem_of_getElem? (i := 680) (by decide +kernel)⟩
theorem lw_p17 : lw_okq (⟨"WindowCacheModel", "firstStep", "()I"⟩, 49) := ⟨⟨by decide +kernel, by decide +kernel⟩, List.mem_of_getElem? (i := 690) (by decide +kernel), List.mem_of_getElem? (i := 697) (by decide +kernel), List.mem_of_getElem? (i := 698) (by decide +kernel)⟩
theorem lw_p18 : lw_okq (⟨"WindowCacheModel", "got", "(I)I"⟩, 49) := ⟨⟨by decide +kernel, by decide +kernel⟩, List.mem_of_getElem? (i := 690) (by decide +kernel), List.mem_of_getElem? (i := 866) (by decide +kernel), List.mem_of_getElem? (i := 867) (by decide +kernel)⟩
theorem lw_p19 : lw_okq (⟨"WindowCacheModel", "seen", "(I)I"⟩, 49) := ⟨⟨by decide +kernel, by decide +kernel⟩, List.mem_of_getElem? (i := 690) (by decide +kernel), List.mem_of_getElem? (i := 870) (by decide +kernel), List.mem_of_getElem? (i := 871) (by decide +kernel)⟩
theorem lw_p20 : lw_okq (⟨"WindowCacheModel", "isOver", "(I)Z"⟩, 49) := ⟨⟨by decide +kernel, by decide +kernel⟩, List.mem_of_getElem? (i := 690) (by decide +kernel), List.mem_of_getElem? (i := 874) (by decide +kernel), List.mem_of_getElem? (i := 875) (by decide +kernel)⟩
theorem lw_p21 : lw_okq (⟨"WindowCacheModel", "end", "(I)J"⟩, 49) := ⟨⟨by decide +kernel, by decide +kernel⟩, List.mem_of_getElem? (i := 690) (by decide +kernel), List.mem_of_getElem? (i := 878) (by decide +kernel), List.mem_of_getElem? (i := 879) (by decide +kernel)⟩
theorem lw_p22 : lw_okq (⟨"WindowCacheModel", "lay", "(IIII)Z"⟩, 49) := ⟨⟨by decide +kernel, by decide +kernel⟩, List.mem_of_getElem? (i := 690) (by decide +kernel), List.mem_of_getElem? (i := 891) (by decide +kernel), List.mem_of_getElem? (i := 892) (by decide +kernel)⟩
theorem lw_p23 : lw_okq (⟨"WindowCacheModel", "hear", "(II)V"⟩, 49) := ⟨⟨by decide +kernel, by decide +kernel⟩, List.mem_of_getElem? (i := 690) (by decide +kernel), List.mem_of_getElem? (i := 895) (by decide +kernel), List.mem_of_getElem? (i := 896) (by decide +kernel)⟩
theorem lw_p24 : lw_okq (⟨"WindowCacheModel", "drop", "(II)V"⟩, 49) := ⟨⟨by decide +kernel, by decide +kernel⟩, List.mem_of_getElem? (i := 690) (by decide +kernel), List.mem_of_getElem? (i := 899) (by decide +kernel), List.mem_of_getElem? (i := 900) (by decide +kernel)⟩
theorem lw_p25 : lw_okq (⟨"WindowCacheModel", "task", "(II)V"⟩, 49) := ⟨⟨by decide +kernel, by decide +kernel⟩, List.mem_of_getElem? (i := 690) (by decide +kernel), List.mem_of_getElem? (i := 903) (by decide +kernel), List.mem_of_getElem? (i := 904) (by decide +kernel)⟩
theorem lw_p26 : lw_okq (⟨"WindowCacheModel", "maintenance", "()V"⟩, 49) := ⟨⟨by decide +kernel, by decide +kernel⟩, List.mem_of_getElem? (i := 690) (by decide +kernel), List.mem_of_getElem? (i := 907) (by decide +kernel), List.mem_of_getElem? (i := 908) (by decide +kernel)⟩
theorem lw_p27 : lw_okq (⟨"WindowCacheModel", "workNotes", "()V"⟩, 49) := ⟨⟨by decide +kernel, by decide +kernel⟩, List.mem_of_getElem? (i := 690) (by decide +kernel), List.mem_of_getElem? (i := 911) (by decide +kernel), List.mem_of_getElem? (i := 912) (by decide +kernel)⟩
theorem lw_p28 : lw_okq (⟨"WindowCacheModel", "count1", "(I)V"⟩, 49) := ⟨⟨by decide +kernel, by decide +kernel⟩, List.mem_of_getElem? (i := 690) (by decide +kernel), List.mem_of_getElem? (i := 915) (by decide +kernel), List.mem_of_getElem? (i := 916) (by decide +kernel)⟩
theorem lw_p29 : lw_okq (⟨"WindowCacheModel", "place", "(II)I"⟩, 49) := ⟨⟨by decide +kernel, by decide +kernel⟩, List.mem_of_getElem? (i := 690) (by decide +kernel), List.mem_of_getElem? (i := 919) (by decide +kernel), List.mem_of_getElem? (i := 920) (by decide +kernel)⟩
theorem lw_p30 : lw_okq (⟨"WindowCacheModel", "touched", "(I)V"⟩, 49) := ⟨⟨by decide +kernel, by decide +kernel⟩, List.mem_of_getElem? (i := 690) (by decide +kernel), List.mem_of_getElem? (i := 923) (by decide +kernel), List.mem_of_getElem? (i := 924) (by decide +kernel)⟩
theorem lw_p31 : lw_okq (⟨"WindowCacheModel", "latest", "(II)V"⟩, 49) := ⟨⟨by decide +kernel, by decide +kernel⟩, List.mem_of_getElem? (i := 690) (by decide +kernel), List.mem_of_getElem? (i := 927) (by decide +kernel), List.mem_of_getElem? (i := 928) (by decide +kernel)⟩
def lw_privs_2 : List (MethodName × Nat) := [(⟨"WindowCache", "isWelcome", "(LWindowCache$Way;I)Z"⟩, 15), (⟨"WindowCacheModel", "firstStep", "()I"⟩, 49), (⟨"WindowCacheModel", "got", "(I)I"⟩, 49), (⟨"WindowCacheModel", "seen", "(I)I"⟩, 49), (⟨"WindowCacheModel", "isOver", "(I)Z"⟩, 49), (⟨"WindowCacheModel", "end", "(I)J"⟩, 49), (⟨"WindowCacheModel", "lay", "(IIII)Z"⟩, 49), (⟨"WindowCacheModel", "hear", "(II)V"⟩, 49), (⟨"WindowCacheModel", "drop", "(II)V"⟩, 49), (⟨"WindowCacheModel", "task", "(II)V"⟩, 49), (⟨"WindowCacheModel", "maintenance", "()V"⟩, 49), (⟨"WindowCacheModel", "workNotes", "()V"⟩, 49), (⟨"WindowCacheModel", "count1", "(I)V"⟩, 49), (⟨"WindowCacheModel", "place", "(II)I"⟩, 49), (⟨"WindowCacheModel", "touched", "(I)V"⟩, 49), (⟨"WindowCacheModel", "latest", "(II)V"⟩, 49)]
theorem lw_r2 : ∀ q ∈ lw_privs_2, lw_okq q := List.forall_mem_cons.mpr ⟨lw_p16, List.forall_mem_cons.mpr ⟨lw_p17, List.forall_mem_cons.mpr ⟨lw_p18, List.forall_mem_cons.mpr ⟨lw_p19, List.forall_mem_cons.mpr ⟨lw_p20, List.forall_mem_cons.mpr ⟨lw_p21, List.forall_mem_cons.mpr ⟨lw_p22, List.forall_mem_cons.mpr ⟨lw_p23, List.forall_mem_cons.mpr ⟨lw_p24, List.forall_mem_cons.mpr ⟨lw_p25, List.forall_mem_cons.mpr ⟨lw_p26, List.forall_mem_cons.mpr ⟨lw_p27, List.forall_mem_cons.mpr ⟨lw_p28, List.forall_mem_cons.mpr ⟨lw_p29, List.forall_mem_cons.mpr ⟨lw_p30, List.forall_mem_cons.mpr ⟨lw_p31, fun _ h => absurd h List.not_mem_nil⟩⟩⟩⟩⟩⟩⟩⟩⟩⟩⟩⟩⟩⟩⟩⟩
theorem lw_p32 : lw_okq (⟨"WindowCacheModel", "lower", "()V"⟩, 49) := ⟨⟨by decide +kernel, by decide +kernel⟩, List.mem_of_getElem? (i := 690) (by decide +kernel), List.mem_of_getElem? (i := 931) (by decide +kernel), List.mem_of_getElem? (i := 932) (by decide +kernel)⟩
theorem lw_p33 : lw_okq (⟨"WindowCacheModel", "weightOf", "(I)I"⟩, 49) := ⟨⟨by decide +kernel, by decide +kernel⟩, List.mem_of_getElem? (i := 690) (by decide +kernel), List.mem_of_getElem? (i := 935) (by decide +kernel), List.mem_of_getElem? (i := 936) (by decide +kernel)⟩
theorem lw_p34 : lw_okq (⟨"WindowCacheModel", "earliest", "(I)I"⟩, 49) := ⟨⟨by decide +kernel, by decide +kernel⟩, List.mem_of_getElem? (i := 690) (by decide +kernel), List.mem_of_getElem? (i := 939) (by decide +kernel), List.mem_of_getElem? (i := 940) (by decide +kernel)⟩
theorem lw_p35 : lw_okq (⟨"WindowCacheModel", "workTasks", "()V"⟩, 49) := ⟨⟨by decide +kernel, by decide +kernel⟩, List.mem_of_getElem? (i := 690) (by decide +kernel), List.mem_of_getElem? (i := 943) (by decide +kernel), List.mem_of_getElem? (i := 944) (by decide +kernel)⟩
theorem lw_p36 : lw_okq (⟨"WindowCacheModel", "expire", "()V"⟩, 49) := ⟨⟨by decide +kernel, by decide +kernel⟩, List.mem_of_getElem? (i := 690) (by decide +kernel), List.mem_of_getElem? (i := 947) (by decide +kernel), List.mem_of_getElem? (i := 948) (by decide +kernel)⟩
theorem lw_p37 : lw_okq (⟨"WindowCacheModel", "shrink", "()V"⟩, 49) := ⟨⟨by decide +kernel, by decide +kernel⟩, List.mem_of_getElem? (i := 690) (by decide +kernel), List.mem_of_getElem? (i := 951) (by decide +kernel), List.mem_of_getElem? (i := 952) (by decide +kernel)⟩
theorem lw_p38 : lw_okq (⟨"WindowCacheModel", "all", "()I"⟩, 49) := ⟨⟨by decide +kernel, by decide +kernel⟩, List.mem_of_getElem? (i := 690) (by decide +kernel), List.mem_of_getElem? (i := 955) (by decide +kernel), List.mem_of_getElem? (i := 956) (by decide +kernel)⟩
theorem lw_p39 : lw_okq (⟨"WindowCacheModel", "nextCandidate", "()I"⟩, 49) := ⟨⟨by decide +kernel, by decide +kernel⟩, List.mem_of_getElem? (i := 690) (by decide +kernel), List.mem_of_getElem? (i := 959) (by decide +kernel), List.mem_of_getElem? (i := 960) (by decide +kernel)⟩
theorem lw_p40 : lw_okq (⟨"WindowCacheModel", "often0", "(I)I"⟩, 49) := ⟨⟨by decide +kernel, by decide +kernel⟩, List.mem_of_getElem? (i := 690) (by decide +kernel), List.mem_of_getElem? (i := 963) (by decide +kernel), List.mem_of_getElem? (i := 964) (by decide +kernel)⟩
theorem lw_p41 : lw_okq (⟨"WindowCacheModel", "drawn", "()Z"⟩, 49) := ⟨⟨by decide +kernel, by decide +kernel⟩, List.mem_of_getElem? (i := 690) (by decide +kernel), List.mem_of_getElem? (i := 967) (by decide +kernel), List.mem_of_getElem? (i := 968) (by decide +kernel)⟩
theorem lw_p42 : lw_okq (⟨"WindowCacheModel", "evict", "(I)V"⟩, 49) := ⟨⟨by decide +kernel, by decide +kernel⟩, List.mem_of_getElem? (i := 690) (by decide +kernel), List.mem_of_getElem? (i := 971) (by decide +kernel), List.mem_of_getElem? (i := 972) (by decide +kernel)⟩
theorem lw_p43 : lw_okq (⟨"WindowCacheModel", "climb", "()V"⟩, 49) := ⟨⟨by decide +kernel, by decide +kernel⟩, List.mem_of_getElem? (i := 690) (by decide +kernel), List.mem_of_getElem? (i := 975) (by decide +kernel), List.mem_of_getElem? (i := 976) (by decide +kernel)⟩
theorem lw_p44 : lw_okq (⟨"WindowCacheModel", "inMap", "(Z)I"⟩, 49) := ⟨⟨by decide +kernel, by decide +kernel⟩, List.mem_of_getElem? (i := 690) (by decide +kernel), List.mem_of_getElem? (i := 1014) (by decide +kernel), List.mem_of_getElem? (i := 1015) (by decide +kernel)⟩
theorem lw_p45 : lw_okq (⟨"WindowCacheModel", "onWay", "()I"⟩, 49) := ⟨⟨by decide +kernel, by decide +kernel⟩, List.mem_of_getElem? (i := 690) (by decide +kernel), List.mem_of_getElem? (i := 1018) (by decide +kernel), List.mem_of_getElem? (i := 1019) (by decide +kernel)⟩
def lw_privs_3 : List (MethodName × Nat) := [(⟨"WindowCacheModel", "lower", "()V"⟩, 49), (⟨"WindowCacheModel", "weightOf", "(I)I"⟩, 49), (⟨"WindowCacheModel", "earliest", "(I)I"⟩, 49), (⟨"WindowCacheModel", "workTasks", "()V"⟩, 49), (⟨"WindowCacheModel", "expire", "()V"⟩, 49), (⟨"WindowCacheModel", "shrink", "()V"⟩, 49), (⟨"WindowCacheModel", "all", "()I"⟩, 49), (⟨"WindowCacheModel", "nextCandidate", "()I"⟩, 49), (⟨"WindowCacheModel", "often0", "(I)I"⟩, 49), (⟨"WindowCacheModel", "drawn", "()Z"⟩, 49), (⟨"WindowCacheModel", "evict", "(I)V"⟩, 49), (⟨"WindowCacheModel", "climb", "()V"⟩, 49), (⟨"WindowCacheModel", "inMap", "(Z)I"⟩, 49), (⟨"WindowCacheModel", "onWay", "()I"⟩, 49)]
theorem lw_r3 : ∀ q ∈ lw_privs_3, lw_okq q := List.forall_mem_cons.mpr ⟨lw_p32, List.forall_mem_cons.mpr ⟨lw_p33, List.forall_mem_cons.mpr ⟨lw_p34, List.forall_mem_cons.mpr ⟨lw_p35, List.forall_mem_cons.mpr ⟨lw_p36, List.forall_mem_cons.mpr ⟨lw_p37, List.forall_mem_cons.mpr ⟨lw_p38, List.forall_mem_cons.mpr ⟨lw_p39, List.forall_mem_cons.mpr ⟨lw_p40, List.forall_mem_cons.mpr ⟨lw_p41, List.forall_mem_cons.mpr ⟨lw_p42, List.forall_mem_cons.mpr ⟨lw_p43, List.forall_mem_cons.mpr ⟨lw_p44, List.forall_mem_cons.mpr ⟨lw_p45, fun _ h => absurd h List.not_mem_nil⟩⟩⟩⟩⟩⟩⟩⟩⟩⟩⟩⟩⟩⟩
def lw_privs : List (MethodName × Nat) := lw_privs_1 ++ (lw_privs_2 ++ (lw_privs_3))
def lw_tbl : List Cond := k2_sels lw_privs ++ tables_1
theorem lw_privs_ok : ∀ q ∈ lw_privs, lw_okq q := by
  show ∀ q ∈ lw_privs_1 ++ (lw_privs_2 ++ (lw_privs_3)), lw_okq q
  exact List.forall_mem_append.mpr ⟨lw_r1, List.forall_mem_append.mpr ⟨lw_r2, lw_r3⟩⟩

/-! names of the classes, their fields (declarer, name, descriptor, final), how many, their types -/
def kR (c : Nat) : String := match c with
  | 0 => "WindowCache"
  | 1 => "WindowCache$Climb"
  | 2 => "WindowCache$Counts"
  | 3 => "WindowCache$Entry"
  | 4 => "WindowCache$Lives"
  | 5 => "WindowCache$Log"
  | 6 => "WindowCache$Notes"
  | 7 => "WindowCache$Room"
  | 8 => "WindowCache$Rooms"
  | 9 => "WindowCache$Tasks"
  | 10 => "WindowCache$Way"
  | _ => "WindowCacheModel"
def kT0 : u_T := fun k => match k with
  | 0 => ("WindowCache", "map", "[LWindowCache$Entry;", true)
  | 1 => ("WindowCache", "ways", "[LWindowCache$Way;", true)
  | 2 => ("WindowCache", "evenNotes", "LWindowCache$Notes;", true)
  | 3 => ("WindowCache", "oddNotes", "LWindowCache$Notes;", true)
  | 4 => ("WindowCache", "tasks", "LWindowCache$Tasks;", true)
  | 5 => ("WindowCache", "log", "LWindowCache$Log;", true)
  | 6 => ("WindowCache", "lives", "LWindowCache$Lives;", true)
  | 7 => ("WindowCache", "counts", "LWindowCache$Counts;", true)
  | 8 => ("WindowCache", "rooms", "LWindowCache$Rooms;", true)
  | 9 => ("WindowCache", "climb", "LWindowCache$Climb;", true)
  | 10 => ("WindowCache", "draw", "I", false)
  | 11 => ("WindowCache", "finished", "I", false)
  | 12 => ("WindowCache", "failed", "I", false)
  | 13 => ("WindowCache", "evicted", "I", false)
  | _ => ("WindowCache", "evictedWeight", "I", false)
def kY0 : Nat → FieldType := fun k => match k with
  | 0 => (.array (.object "WindowCache$Entry"))
  | 1 => (.array (.object "WindowCache$Way"))
  | 2 => (.object "WindowCache$Notes")
  | 3 => (.object "WindowCache$Notes")
  | 4 => (.object "WindowCache$Tasks")
  | 5 => (.object "WindowCache$Log")
  | 6 => (.object "WindowCache$Lives")
  | 7 => (.object "WindowCache$Counts")
  | 8 => (.object "WindowCache$Rooms")
  | 9 => (.object "WindowCache$Climb")
  | 10 => .int
  | 11 => .int
  | 12 => .int
  | 13 => .int
  | _ => .int
def kT1 : u_T := fun k => match k with
  | 0 => ("WindowCache$Climb", "askedUntilDue", "I", true)
  | 1 => ("WindowCache$Climb", "firstStep", "I", true)
  | 2 => ("WindowCache$Climb", "hits", "I", false)
  | 3 => ("WindowCache$Climb", "misses", "I", false)
  | 4 => ("WindowCache$Climb", "hitsBefore", "I", false)
  | 5 => ("WindowCache$Climb", "askedBefore", "I", false)
  | 6 => ("WindowCache$Climb", "rate", "I", false)
  | 7 => ("WindowCache$Climb", "step", "I", false)
  | _ => ("WindowCache$Climb", "up", "Z", false)
def kY1 : Nat → FieldType := fun k => match k with
  | 0 => .int
  | 1 => .int
  | 2 => .int
  | 3 => .int
  | 4 => .int
  | 5 => .int
  | 6 => .int
  | 7 => .int
  | _ => .boolean
def kT2 : u_T := fun k => match k with
  | 0 => ("WindowCache$Counts", "size", "I", true)
  | 1 => ("WindowCache$Counts", "words", "[I", true)
  | _ => ("WindowCache$Counts", "added", "I", false)
def kY2 : Nat → FieldType := fun k => match k with
  | 0 => .int
  | 1 => (.array .int)
  | _ => .int
def kT3 : u_T := fun k => match k with
  | 0 => ("WindowCache$Entry", "key", "I", true)
  | 1 => ("WindowCache$Entry", "value", "I", false)
  | 2 => ("WindowCache$Entry", "weight", "I", false)
  | 3 => ("WindowCache$Entry", "edition", "I", false)
  | 4 => ("WindowCache$Entry", "fixedEnd", "J", false)
  | 5 => ("WindowCache$Entry", "end", "J", false)
  | 6 => ("WindowCache$Entry", "livesByTouch", "Z", false)
  | 7 => ("WindowCache$Entry", "gone", "Z", false)
  | 8 => ("WindowCache$Entry", "room", "LWindowCache$Room;", false)
  | 9 => ("WindowCache$Entry", "earlier", "LWindowCache$Entry;", false)
  | _ => ("WindowCache$Entry", "later", "LWindowCache$Entry;", false)
def kY3 : Nat → FieldType := fun k => match k with
  | 0 => .int
  | 1 => .int
  | 2 => .int
  | 3 => .int
  | 4 => .long
  | 5 => .long
  | 6 => .boolean
  | 7 => .boolean
  | 8 => (.object "WindowCache$Room")
  | 9 => (.object "WindowCache$Entry")
  | _ => (.object "WindowCache$Entry")
def kT4 : u_T := fun k => match k with
  | 0 => ("WindowCache$Lives", "write", "I", true)
  | 1 => ("WindowCache$Lives", "touch", "I", true)
  | _ => ("WindowCache$Lives", "time", "J", false)
def kY4 : Nat → FieldType := fun k => match k with
  | 0 => .int
  | 1 => .int
  | _ => .long
def kT5 : u_T := fun k => match k with
  | 0 => ("WindowCache$Log", "keys", "[I", true)
  | 1 => ("WindowCache$Log", "values", "[I", true)
  | 2 => ("WindowCache$Log", "whys", "[I", true)
  | _ => ("WindowCache$Log", "size", "I", false)
def kY5 : Nat → FieldType := fun k => match k with
  | 0 => (.array .int)
  | 1 => (.array .int)
  | 2 => (.array .int)
  | _ => .int
def kT6 : u_T := fun k => match k with
  | 0 => ("WindowCache$Notes", "entries", "[LWindowCache$Entry;", true)
  | 1 => ("WindowCache$Notes", "size", "I", false)
  | _ => ("WindowCache$Notes", "lost", "I", false)
def kY6 : Nat → FieldType := fun k => match k with
  | 0 => (.array (.object "WindowCache$Entry"))
  | 1 => .int
  | _ => .int
def kT7 : u_T := fun k => match k with
  | 0 => ("WindowCache$Room", "earliest", "LWindowCache$Entry;", false)
  | 1 => ("WindowCache$Room", "latest", "LWindowCache$Entry;", false)
  | 2 => ("WindowCache$Room", "weight", "I", false)
  | _ => ("WindowCache$Room", "size", "I", false)
def kY7 : Nat → FieldType := fun k => match k with
  | 0 => (.object "WindowCache$Entry")
  | 1 => (.object "WindowCache$Entry")
  | 2 => .int
  | _ => .int
def kT8 : u_T := fun k => match k with
  | 0 => ("WindowCache$Rooms", "max", "I", true)
  | 1 => ("WindowCache$Rooms", "window", "LWindowCache$Room;", true)
  | 2 => ("WindowCache$Rooms", "probation", "LWindowCache$Room;", true)
  | 3 => ("WindowCache$Rooms", "shielded", "LWindowCache$Room;", true)
  | _ => ("WindowCache$Rooms", "windowLimit", "I", false)
def kY8 : Nat → FieldType := fun k => match k with
  | 0 => .int
  | 1 => (.object "WindowCache$Room")
  | 2 => (.object "WindowCache$Room")
  | 3 => (.object "WindowCache$Room")
  | _ => .int
def kT9 : u_T := fun k => match k with
  | 0 => ("WindowCache$Tasks", "entries", "[LWindowCache$Entry;", true)
  | 1 => ("WindowCache$Tasks", "kinds", "[I", true)
  | _ => ("WindowCache$Tasks", "size", "I", false)
def kY9 : Nat → FieldType := fun k => match k with
  | 0 => (.array (.object "WindowCache$Entry"))
  | 1 => (.array .int)
  | _ => .int
def kT10 : u_T := fun k => match k with
  | 0 => ("WindowCache$Way", "entry", "LWindowCache$Entry;", true)
  | _ => ("WindowCache$Way", "edition", "I", true)
def kY10 : Nat → FieldType := fun k => match k with
  | 0 => (.object "WindowCache$Entry")
  | _ => .int
def kT11 : u_T := fun k => match k with
  | 0 => ("WindowCacheModel", "thrown", "I", false)
  | 1 => ("WindowCacheModel", "max", "I", true)
  | 2 => ("WindowCacheModel", "write", "I", true)
  | 3 => ("WindowCacheModel", "touch", "I", true)
  | 4 => ("WindowCacheModel", "size", "I", true)
  | 5 => ("WindowCacheModel", "time", "J", false)
  | 6 => ("WindowCacheModel", "entryOf", "[I", true)
  | 7 => ("WindowCacheModel", "way", "[I", true)
  | 8 => ("WindowCacheModel", "wayEntry", "[I", true)
  | 9 => ("WindowCacheModel", "wayPuts", "[I", true)
  | 10 => ("WindowCacheModel", "entries", "I", false)
  | 11 => ("WindowCacheModel", "key", "[I", true)
  | 12 => ("WindowCacheModel", "value", "[I", true)
  | 13 => ("WindowCacheModel", "weight", "[I", true)
  | 14 => ("WindowCacheModel", "own", "[I", true)
  | 15 => ("WindowCacheModel", "room", "[I", true)
  | 16 => ("WindowCacheModel", "puts", "[I", true)
  | 17 => ("WindowCacheModel", "putAt", "[J", true)
  | 18 => ("WindowCacheModel", "gotAt", "[J", true)
  | 19 => ("WindowCacheModel", "stamp", "[J", true)
  | 20 => ("WindowCacheModel", "there", "[Z", true)
  | 21 => ("WindowCacheModel", "candidate", "[Z", true)
  | 22 => ("WindowCacheModel", "stamps", "J", false)
  | 23 => ("WindowCacheModel", "notes", "[I", true)
  | 24 => ("WindowCacheModel", "noted", "[I", true)
  | 25 => ("WindowCacheModel", "taskKind", "[I", true)
  | 26 => ("WindowCacheModel", "taskEntry", "[I", true)
  | 27 => ("WindowCacheModel", "tasks", "I", false)
  | 28 => ("WindowCacheModel", "lost", "I", false)
  | 29 => ("WindowCacheModel", "added", "I", false)
  | 30 => ("WindowCacheModel", "counts", "[I", true)
  | 31 => ("WindowCacheModel", "odd", "[I", true)
  | 32 => ("WindowCacheModel", "window", "I", false)
  | 33 => ("WindowCacheModel", "step", "I", false)
  | 34 => ("WindowCacheModel", "rate", "I", false)
  | 35 => ("WindowCacheModel", "draw", "I", false)
  | 36 => ("WindowCacheModel", "up", "Z", false)
  | 37 => ("WindowCacheModel", "hits", "I", false)
  | 38 => ("WindowCacheModel", "misses", "I", false)
  | 39 => ("WindowCacheModel", "newHits", "I", false)
  | 40 => ("WindowCacheModel", "newMisses", "I", false)
  | 41 => ("WindowCacheModel", "finished", "I", false)
  | 42 => ("WindowCacheModel", "failed", "I", false)
  | 43 => ("WindowCacheModel", "evicted", "I", false)
  | 44 => ("WindowCacheModel", "evictedWeight", "I", false)
  | 45 => ("WindowCacheModel", "heard", "I", false)
  | 46 => ("WindowCacheModel", "heardKey", "[I", true)
  | 47 => ("WindowCacheModel", "heardValue", "[I", true)
  | _ => ("WindowCacheModel", "heardWhy", "[I", true)
def kY11 : Nat → FieldType := fun k => match k with
  | 0 => .int
  | 1 => .int
  | 2 => .int
  | 3 => .int
  | 4 => .int
  | 5 => .long
  | 6 => (.array .int)
  | 7 => (.array .int)
  | 8 => (.array .int)
  | 9 => (.array .int)
  | 10 => .int
  | 11 => (.array .int)
  | 12 => (.array .int)
  | 13 => (.array .int)
  | 14 => (.array .int)
  | 15 => (.array .int)
  | 16 => (.array .int)
  | 17 => (.array .long)
  | 18 => (.array .long)
  | 19 => (.array .long)
  | 20 => (.array .boolean)
  | 21 => (.array .boolean)
  | 22 => .long
  | 23 => (.array .int)
  | 24 => (.array .int)
  | 25 => (.array .int)
  | 26 => (.array .int)
  | 27 => .int
  | 28 => .int
  | 29 => .int
  | 30 => (.array .int)
  | 31 => (.array .int)
  | 32 => .int
  | 33 => .int
  | 34 => .int
  | 35 => .int
  | 36 => .boolean
  | 37 => .int
  | 38 => .int
  | 39 => .int
  | 40 => .int
  | 41 => .int
  | 42 => .int
  | 43 => .int
  | 44 => .int
  | 45 => .int
  | 46 => (.array .int)
  | 47 => (.array .int)
  | _ => (.array .int)
def kT (c : Nat) : u_T := match c with
  | 0 => kT0
  | 1 => kT1
  | 2 => kT2
  | 3 => kT3
  | 4 => kT4
  | 5 => kT5
  | 6 => kT6
  | 7 => kT7
  | 8 => kT8
  | 9 => kT9
  | 10 => kT10
  | _ => kT11
def kY (c : Nat) : Nat → FieldType := match c with
  | 0 => kY0
  | 1 => kY1
  | 2 => kY2
  | 3 => kY3
  | 4 => kY4
  | 5 => kY5
  | 6 => kY6
  | 7 => kY7
  | 8 => kY8
  | 9 => kY9
  | 10 => kY10
  | _ => kY11
def kN (c : Nat) : Nat := match c with
  | 0 => 15
  | 1 => 9
  | 2 => 3
  | 3 => 11
  | 4 => 3
  | 5 => 4
  | 6 => 3
  | 7 => 4
  | 8 => 5
  | 9 => 3
  | 10 => 2
  | _ => 49
def kcl : List vw_C := [(kR 0, kT 0, kN 0), (kR 1, kT 1, kN 1), (kR 2, kT 2, kN 2), (kR 3, kT 3, kN 3), (kR 4, kT 4, kN 4), (kR 5, kT 5, kN 5), (kR 6, kT 6, kN 6), (kR 7, kT 7, kN 7), (kR 8, kT 8, kN 8), (kR 9, kT 9, kN 9), (kR 10, kT 10, kN 10), (kR 11, kT 11, kN 11)]
theorem kcl_at {c : Nat} (h : c < 12) : kcl[c]? = some (kR c, kT c, kN c) := by
  rcases (show c = 0 ∨ c = 1 ∨ c = 2 ∨ c = 3 ∨ c = 4 ∨ c = 5 ∨ c = 6 ∨ c = 7 ∨ c = 8 ∨ c = 9 ∨ c = 10 ∨ c = 11 by omega) with rfl | rfl | rfl | rfl | rfl | rfl | rfl | rfl | rfl | rfl | rfl | rfl <;> rfl
theorem kY_ok0 : ∀ k, k < kN 0 → parseFieldDescriptor (kT 0 k).2.2.1 = some (kY 0 k) := by decide +kernel
theorem knm0 : ∀ a, a < kN 0 → ∀ b, b < kN 0 → a ≠ b → (kT 0 a).2.1 ≠ (kT 0 b).2.1 := by decide +kernel
theorem kY_ok1 : ∀ k, k < kN 1 → parseFieldDescriptor (kT 1 k).2.2.1 = some (kY 1 k) := by decide +kernel
theorem knm1 : ∀ a, a < kN 1 → ∀ b, b < kN 1 → a ≠ b → (kT 1 a).2.1 ≠ (kT 1 b).2.1 := by decide +kernel
theorem kY_ok2 : ∀ k, k < kN 2 → parseFieldDescriptor (kT 2 k).2.2.1 = some (kY 2 k) := by decide +kernel
theorem knm2 : ∀ a, a < kN 2 → ∀ b, b < kN 2 → a ≠ b → (kT 2 a).2.1 ≠ (kT 2 b).2.1 := by decide +kernel
theorem kY_ok3 : ∀ k, k < kN 3 → parseFieldDescriptor (kT 3 k).2.2.1 = some (kY 3 k) := by decide +kernel
theorem knm3 : ∀ a, a < kN 3 → ∀ b, b < kN 3 → a ≠ b → (kT 3 a).2.1 ≠ (kT 3 b).2.1 := by decide +kernel
theorem kY_ok4 : ∀ k, k < kN 4 → parseFieldDescriptor (kT 4 k).2.2.1 = some (kY 4 k) := by decide +kernel
theorem knm4 : ∀ a, a < kN 4 → ∀ b, b < kN 4 → a ≠ b → (kT 4 a).2.1 ≠ (kT 4 b).2.1 := by decide +kernel
theorem kY_ok5 : ∀ k, k < kN 5 → parseFieldDescriptor (kT 5 k).2.2.1 = some (kY 5 k) := by decide +kernel
theorem knm5 : ∀ a, a < kN 5 → ∀ b, b < kN 5 → a ≠ b → (kT 5 a).2.1 ≠ (kT 5 b).2.1 := by decide +kernel
theorem kY_ok6 : ∀ k, k < kN 6 → parseFieldDescriptor (kT 6 k).2.2.1 = some (kY 6 k) := by decide +kernel
theorem knm6 : ∀ a, a < kN 6 → ∀ b, b < kN 6 → a ≠ b → (kT 6 a).2.1 ≠ (kT 6 b).2.1 := by decide +kernel
theorem kY_ok7 : ∀ k, k < kN 7 → parseFieldDescriptor (kT 7 k).2.2.1 = some (kY 7 k) := by decide +kernel
theorem knm7 : ∀ a, a < kN 7 → ∀ b, b < kN 7 → a ≠ b → (kT 7 a).2.1 ≠ (kT 7 b).2.1 := by decide +kernel
theorem kY_ok8 : ∀ k, k < kN 8 → parseFieldDescriptor (kT 8 k).2.2.1 = some (kY 8 k) := by decide +kernel
theorem knm8 : ∀ a, a < kN 8 → ∀ b, b < kN 8 → a ≠ b → (kT 8 a).2.1 ≠ (kT 8 b).2.1 := by decide +kernel
theorem kY_ok9 : ∀ k, k < kN 9 → parseFieldDescriptor (kT 9 k).2.2.1 = some (kY 9 k) := by decide +kernel
theorem knm9 : ∀ a, a < kN 9 → ∀ b, b < kN 9 → a ≠ b → (kT 9 a).2.1 ≠ (kT 9 b).2.1 := by decide +kernel
theorem kY_ok10 : ∀ k, k < kN 10 → parseFieldDescriptor (kT 10 k).2.2.1 = some (kY 10 k) := by decide +kernel
theorem knm10 : ∀ a, a < kN 10 → ∀ b, b < kN 10 → a ≠ b → (kT 10 a).2.1 ≠ (kT 10 b).2.1 := by decide +kernel
theorem kY_ok11 : ∀ k, k < kN 11 → parseFieldDescriptor (kT 11 k).2.2.1 = some (kY 11 k) := by decide +kernel
theorem knm11 : ∀ a, a < kN 11 → ∀ b, b < kN 11 → a ≠ b → (kT 11 a).2.1 ≠ (kT 11 b).2.1 := by decide +kernel
theorem kY_ok {c : Nat} (h : c < 12) : ∀ k, k < kN c → parseFieldDescriptor (kT c k).2.2.1 = some (kY c k) := by
  rcases (show c = 0 ∨ c = 1 ∨ c = 2 ∨ c = 3 ∨ c = 4 ∨ c = 5 ∨ c = 6 ∨ c = 7 ∨ c = 8 ∨ c = 9 ∨ c = 10 ∨ c = 11 by omega) with rfl | rfl | rfl | rfl | rfl | rfl | rfl | rfl | rfl | rfl | rfl | rfl
  · exact kY_ok0
  · exact kY_ok1
  · exact kY_ok2
  · exact kY_ok3
  · exact kY_ok4
  · exact kY_ok5
  · exact kY_ok6
  · exact kY_ok7
  · exact kY_ok8
  · exact kY_ok9
  · exact kY_ok10
  · exact kY_ok11
theorem knm {c : Nat} (h : c < 12) : ∀ a, a < kN c → ∀ b, b < kN c → a ≠ b → (kT c a).2.1 ≠ (kT c b).2.1 := by
  rcases (show c = 0 ∨ c = 1 ∨ c = 2 ∨ c = 3 ∨ c = 4 ∨ c = 5 ∨ c = 6 ∨ c = 7 ∨ c = 8 ∨ c = 9 ∨ c = 10 ∨ c = 11 by omega) with rfl | rfl | rfl | rfl | rfl | rfl | rfl | rfl | rfl | rfl | rfl | rfl
  · exact knm0
  · exact knm1
  · exact knm2
  · exact knm3
  · exact knm4
  · exact knm5
  · exact knm6
  · exact knm7
  · exact knm8
  · exact knm9
  · exact knm10
  · exact knm11
