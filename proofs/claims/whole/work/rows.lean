section
-- ===== PART A: goes FIRST, ahead of the names: the tables' words, and 'selects' of the private methods out of them =====
/-- a private method of a class that the tables say can be made, by its rows of tables_1 -/
def lw_okq (q : MethodName × Nat) : Prop := (q.1.cls ≠ "java/lang/invoke/MethodHandle" ∧ q.1.cls ≠ "java/lang/invoke/VarHandle") ∧ Cond.instantiable q.1.cls q.2 ∈ tables_1 ∧ Cond.privateMethod q.1 ∈ tables_1 ∧ Cond.instanceMethod q.1 ∈ tables_1
theorem lw_p0 : lw_okq (⟨"WindowCache", "ask", "(I)I"⟩, 15) := ⟨⟨by decide +kernel, by decide +kernel⟩, List.mem_of_getElem? (i := 21) (by decide +kernel), List.mem_of_getElem? (i := 275) (by decide +kernel), List.mem_of_getElem? (i := 276) (by decide +kernel)⟩
theorem lw_p1 : lw_okq (⟨"WindowCache", "isSeen", "(LWindowCache$Entry;)Z"⟩, 15) := ⟨⟨by decide +kernel, by decide +kernel⟩, List.mem_of_getElem? (i := 21) (by decide +kernel), List.mem_of_getElem? (i := 298) (by decide +kernel), List.mem_of_getElem? (i := 299) (by decide +kernel)⟩
theorem lw_p2 : lw_okq (⟨"WindowCache", "dropFromMap", "(LWindowCache$Entry;I)V"⟩, 15) := ⟨⟨by decide +kernel, by decide +kernel⟩, List.mem_of_getElem? (i := 21) (by decide +kernel), List.mem_of_getElem? (i := 306) (by decide +kernel), List.mem_of_getElem? (i := 307) (by decide +kernel)⟩
theorem lw_p3 : lw_okq (⟨"WindowCache", "tidy", "()V"⟩, 15) := ⟨⟨by decide +kernel, by decide +kernel⟩, List.mem_of_getElem? (i := 21) (by decide +kernel), List.mem_of_getElem? (i := 318) (by decide +kernel), List.mem_of_getElem? (i := 319) (by decide +kernel)⟩
theorem lw_p4 : lw_okq (⟨"WindowCache", "takeNotes", "(LWindowCache$Notes;)V"⟩, 15) := ⟨⟨by decide +kernel, by decide +kernel⟩, List.mem_of_getElem? (i := 21) (by decide +kernel), List.mem_of_getElem? (i := 322) (by decide +kernel), List.mem_of_getElem? (i := 323) (by decide +kernel)⟩
theorem lw_p5 : lw_okq (⟨"WindowCache", "takeTasks", "()V"⟩, 15) := ⟨⟨by decide +kernel, by decide +kernel⟩, List.mem_of_getElem? (i := 21) (by decide +kernel), List.mem_of_getElem? (i := 364) (by decide +kernel), List.mem_of_getElem? (i := 365) (by decide +kernel)⟩
theorem lw_p6 : lw_okq (⟨"WindowCache", "expire", "()V"⟩, 15) := ⟨⟨by decide +kernel, by decide +kernel⟩, List.mem_of_getElem? (i := 21) (by decide +kernel), List.mem_of_getElem? (i := 373) (by decide +kernel), List.mem_of_getElem? (i := 374) (by decide +kernel)⟩
theorem lw_p7 : lw_okq (⟨"WindowCache", "evict", "(LWindowCache$Entry;)V"⟩, 15) := ⟨⟨by decide +kernel, by decide +kernel⟩, List.mem_of_getElem? (i := 21) (by decide +kernel), List.mem_of_getElem? (i := 400) (by decide +kernel), List.mem_of_getElem? (i := 401) (by decide +kernel)⟩
theorem lw_p8 : lw_okq (⟨"WindowCache", "loserOf", "(LWindowCache$Entry;LWindowCache$Entry;)LWindowCache$Entry;"⟩, 15) := ⟨⟨by decide +kernel, by decide +kernel⟩, List.mem_of_getElem? (i := 21) (by decide +kernel), List.mem_of_getElem? (i := 412) (by decide +kernel), List.mem_of_getElem? (i := 413) (by decide +kernel)⟩
theorem lw_p9 : lw_okq (⟨"WindowCache", "nextDraw", "()I"⟩, 15) := ⟨⟨by decide +kernel, by decide +kernel⟩, List.mem_of_getElem? (i := 21) (by decide +kernel), List.mem_of_getElem? (i := 421) (by decide +kernel), List.mem_of_getElem? (i := 422) (by decide +kernel)⟩
theorem lw_p10 : lw_okq (⟨"WindowCache", "climbIfDue", "()V"⟩, 15) := ⟨⟨by decide +kernel, by decide +kernel⟩, List.mem_of_getElem? (i := 21) (by decide +kernel), List.mem_of_getElem? (i := 425) (by decide +kernel), List.mem_of_getElem? (i := 426) (by decide +kernel)⟩
theorem lw_p11 : lw_okq (⟨"WindowCache", "entriesInMap", "(Z)I"⟩, 15) := ⟨⟨by decide +kernel, by decide +kernel⟩, List.mem_of_getElem? (i := 21) (by decide +kernel), List.mem_of_getElem? (i := 482) (by decide +kernel), List.mem_of_getElem? (i := 483) (by decide +kernel)⟩
theorem lw_p12 : lw_okq (⟨"WindowCache", "keysOnTheirWay", "()I"⟩, 15) := ⟨⟨by decide +kernel, by decide +kernel⟩, List.mem_of_getElem? (i := 21) (by decide +kernel), List.mem_of_getElem? (i := 486) (by decide +kernel), List.mem_of_getElem? (i := 487) (by decide +kernel)⟩
theorem lw_p13 : lw_okq (⟨"java/lang/Throwable", "fillInStackTrace", "(I)Ljava/lang/Throwable;"⟩, 6) := ⟨⟨by decide +kernel, by decide +kernel⟩, List.mem_of_getElem? (i := 561) (by decide +kernel), List.mem_of_getElem? (i := 559) (by decide +kernel), List.mem_of_getElem? (i := 560) (by decide +kernel)⟩
theorem lw_p14 : lw_okq (⟨"WindowCache", "store", "(IIII)Z"⟩, 15) := ⟨⟨by decide +kernel, by decide +kernel⟩, List.mem_of_getElem? (i := 21) (by decide +kernel), List.mem_of_getElem? (i := 586) (by decide +kernel), List.mem_of_getElem? (i := 587) (by decide +kernel)⟩
theorem lw_p15 : lw_okq (⟨"WindowCache", "fill", "(LWindowCache$Entry;III)V"⟩, 15) := ⟨⟨by decide +kernel, by decide +kernel⟩, List.mem_of_getElem? (i := 21) (by decide +kernel), List.mem_of_getElem? (i := 590) (by decide +kernel), List.mem_of_getElem? (i := 591) (by decide +kernel)⟩
def lw_privs_1 : List (MethodName × Nat) := [(⟨"WindowCache", "ask", "(I)I"⟩, 15), (⟨"WindowCache", "isSeen", "(LWindowCache$Entry;)Z"⟩, 15), (⟨"WindowCache", "dropFromMap", "(LWindowCache$Entry;I)V"⟩, 15), (⟨"WindowCache", "tidy", "()V"⟩, 15), (⟨"WindowCache", "takeNotes", "(LWindowCache$Notes;)V"⟩, 15), (⟨"WindowCache", "takeTasks", "()V"⟩, 15), (⟨"WindowCache", "expire", "()V"⟩, 15), (⟨"WindowCache", "evict", "(LWindowCache$Entry;)V"⟩, 15), (⟨"WindowCache", "loserOf", "(LWindowCache$Entry;LWindowCache$Entry;)LWindowCache$Entry;"⟩, 15), (⟨"WindowCache", "nextDraw", "()I"⟩, 15), (⟨"WindowCache", "climbIfDue", "()V"⟩, 15), (⟨"WindowCache", "entriesInMap", "(Z)I"⟩, 15), (⟨"WindowCache", "keysOnTheirWay", "()I"⟩, 15), (⟨"java/lang/Throwable", "fillInStackTrace", "(I)Ljava/lang/Throwable;"⟩, 6), (⟨"WindowCache", "store", "(IIII)Z"⟩, 15), (⟨"WindowCache", "fill", "(LWindowCache$Entry;III)V"⟩, 15)]
theorem lw_r1 : ∀ q ∈ lw_privs_1, lw_okq q := List.forall_mem_cons.mpr ⟨lw_p0, List.forall_mem_cons.mpr ⟨lw_p1, List.forall_mem_cons.mpr ⟨lw_p2, List.forall_mem_cons.mpr ⟨lw_p3, List.forall_mem_cons.mpr ⟨lw_p4, List.forall_mem_cons.mpr ⟨lw_p5, List.forall_mem_cons.mpr ⟨lw_p6, List.forall_mem_cons.mpr ⟨lw_p7, List.forall_mem_cons.mpr ⟨lw_p8, List.forall_mem_cons.mpr ⟨lw_p9, List.forall_mem_cons.mpr ⟨lw_p10, List.forall_mem_cons.mpr ⟨lw_p11, List.forall_mem_cons.mpr ⟨lw_p12, List.forall_mem_cons.mpr ⟨lw_p13, List.forall_mem_cons.mpr ⟨lw_p14, List.forall_mem_cons.mpr ⟨lw_p15, fun _ h => absurd h List.not_mem_nil⟩⟩⟩⟩⟩⟩⟩⟩⟩⟩⟩⟩⟩⟩⟩⟩
theorem lw_p16 : lw_okq (⟨"WindowCache", "isWelcome", "(LWindowCache$Way;I)Z"⟩, 15) := ⟨⟨by decide +kernel, by decide +kernel⟩, List.mem_of_getElem? (i := 21) (by decide +kernel), List.mem_of_getElem? (i := 679) (by decide +kernel), List.mem_of_getElem? (i := 680) (by decide +kernel)⟩
theorem lw_p17 : lw_okq (⟨"WindowCacheModel", "firstStep", "()I"⟩, 49) := ⟨⟨by decide +kernel, by decide +kernel⟩, List.mem_of_getElem? (i := 690) (by decide +kernel), List.mem_of_getElem? (i := 697) (by decide +kernel), List.mem_of_getElem? (i := 698) (by decide +kernel)⟩
theorem lw_p18 : lw_okq (⟨"WindowCacheModel", "got", "(I)I"⟩, 49) := ⟨⟨by decide +kernel, by decide +kernel⟩, List.mem_of_getElem? (i := 690) (by decide +kernel), List.mem_of_getElem? (i := 866) (by decide +kernel), List.mem_of_getElem? (i := 867) (by decide +kernel)⟩
theorem lw_p19 : lw_okq (⟨"WindowCacheModel", "seen", "(I)I"⟩, 49) := ⟨⟨by decide +kernel, by decide +kernel⟩, List.mem_of_getElem? (i := 690) (by decide +kernel), List.mem_of_getElem? (i := 870) (by decide +kernel), List.mem_of_getElem? (i := 871) (by decide +kernel)⟩
theorem lw_p20 : lw_okq (⟨"WindowCacheModel", "isOver", "(I)Z"⟩, 49) := ⟨⟨by decide +kernel, by decide +kernel⟩, List.mem_of_getElem? (i := 690) (by decide +kernel), List.mem_of_getElem? (i := 874) (by decide +kernel), List.mem_of_getElem? (i := 875) (by decide +kernel)⟩
theorem lw_p21 : lw_okq (⟨"WindowCacheModel", "end", "(I)J"⟩, 49) := ⟨⟨by decide +kernel, by decide +kernel⟩, List.mem_of_getElem? (i := 690) (by decide +kernel), List.mem_of_getElem? (i := 878) (by decide +kernel), List.mem_of_getElem? (i := 879) (by decide +kernel)⟩
theorem lw_p22 : lw_okq (⟨"WindowCacheModel", "lay", "(IIII)Z"⟩, 49) := ⟨⟨by decide +kernel, by decide +kernel⟩, List.mem_of_getElem? (i := 690) (by decide +kernel), List.mem_of_getElem? (i := 891) (by decide +kernel), List.mem_of_getElem? (i := 892) (by decide +kernel)⟩
theorem lw_p23 : lw_okq (⟨"WindowCacheModel", "hear", "(II)V"⟩, 49) := ⟨⟨by decide +kernel, by decide +kernel⟩, List.mem_of_getElem? (i := 690) (by decide +kernel), List.mem_of_getElem? (i := 895) (by decide +kernel), List.mem_of_getElem? (i := 896) (by decide +kernel)⟩
theorem lw_p24 : lw_okq (⟨"WindowCacheModel", "drop", "(II)V"⟩, 49) := ⟨⟨by decide +kernel, by decide +kernel⟩, List.mem_of_getElem? (i := 690) (by decide +kernel), List.mem_of_getElem? (i := 899) (by decide +kernel), List.mem_of_getElem? (i := 900) (by decide +kernel)⟩
theorem lw_p25 : lw_okq (⟨"WindowCacheModel", "task", "(II)V"⟩, 49) := ⟨⟨by decide +kernel, by decide +kernel⟩, List.mem_of_getElem? (i := 690) (by decide +kernel), List.mem_of_getElem? (i := 903) (by decide +kernel), List.mem_of_getElem? (i := 904) (by decide +kernel)⟩
theorem lw_p26 : lw_okq (⟨"WindowCacheModel", "maintenance", "()V"⟩, 49) := ⟨⟨by decide +kernel, by decide +kernel⟩, List.mem_of_getElem? (i := 690) (by decide +kernel), List.mem_of_getElem? (i := 907) (by decide +kernel), List.mem_of_getElem? (i := 908) (by decide +kernel)⟩
theorem lw_p27 : lw_okq (⟨"WindowCacheModel", "workNotes", "()V"⟩, 49) := ⟨⟨by decide +kernel, by decide +kernel⟩, List.mem_of_getElem? (i := 690) (by decide +kernel), List.mem_of_getElem? (i := 911) (by decide +kernel), List.mem_of_getElem? (i := 912) (by decide +kernel)⟩
theorem lw_p28 : lw_okq (⟨"WindowCacheModel", "count1", "(I)V"⟩, 49) := ⟨⟨by decide +kernel, by decide +kernel⟩, List.mem_of_getElem? (i := 690) (by decide +kernel), List.mem_of_getElem? (i := 915) (by decide +kernel), List.mem_of_getElem? (i := 916) (by decide +kernel)⟩
theorem lw_p29 : lw_okq (⟨"WindowCacheModel", "place", "(II)I"⟩, 49) := ⟨⟨by decide +kernel, by decide +kernel⟩, List.mem_of_getElem? (i := 690) (by decide +kernel), List.mem_of_getElem? (i := 919) (by decide +kernel), List.mem_of_getElem? (i := 920) (by decide +kernel)⟩
theorem lw_p30 : lw_okq (⟨"WindowCacheModel", "touched", "(I)V"⟩, 49) := ⟨⟨by decide +kernel, by decide +kernel⟩, List.mem_of_getElem? (i := 690) (by decide +kernel), List.mem_of_getElem? (i := 923) (by decide +kernel), List.mem_of_getElem? (i := 924) (by decide +kernel)⟩
theorem lw_p31 : lw_okq (⟨"WindowCacheModel", "latest", "(II)V"⟩, 49) := ⟨⟨by decide +kernel, by decide +kernel⟩, List.mem_of_getElem? (i := 690) (by decide +kernel), List.mem_of_getElem? (i := 927) (by decide +kernel), List.mem_of_getElem? (i := 928) (by decide +kernel)⟩
def lw_privs_2 : List (MethodName × Nat) := [(⟨"WindowCache", "isWelcome", "(LWindowCache$Way;I)Z"⟩, 15), (⟨"WindowCacheModel", "firstStep", "()I"⟩, 49), (⟨"WindowCacheModel", "got", "(I)I"⟩, 49), (⟨"WindowCacheModel", "seen", "(I)I"⟩, 49), (⟨"WindowCacheModel", "isOver", "(I)Z"⟩, 49), (⟨"WindowCacheModel", "end", "(I)J"⟩, 49), (⟨"WindowCacheModel", "lay", "(IIII)Z"⟩, 49), (⟨"WindowCacheModel", "hear", "(II)V"⟩, 49), (⟨"WindowCacheModel", "drop", "(II)V"⟩, 49), (⟨"WindowCacheModel", "task", "(II)V"⟩, 49), (⟨"WindowCacheModel", "maintenance", "()V"⟩, 49), (⟨"WindowCacheModel", "workNotes", "()V"⟩, 49), (⟨"WindowCacheModel", "count1", "(I)V"⟩, 49), (⟨"WindowCacheModel", "place", "(II)I"⟩, 49), (⟨"WindowCacheModel", "touched", "(I)V"⟩, 49), (⟨"WindowCacheModel", "latest", "(II)V"⟩, 49)]
theorem lw_r2 : ∀ q ∈ lw_privs_2, lw_okq q := List.forall_mem_cons.mpr ⟨lw_p16, List.forall_mem_cons.mpr ⟨lw_p17, List.forall_mem_cons.mpr ⟨lw_p18, List.forall_mem_cons.mpr ⟨lw_p19, List.forall_mem_cons.mpr ⟨lw_p20, List.forall_mem_cons.mpr ⟨lw_p21, List.forall_mem_cons.mpr ⟨lw_p22, List.forall_mem_cons.mpr ⟨lw_p23, List.forall_mem_cons.mpr ⟨lw_p24, List.forall_mem_cons.mpr ⟨lw_p25, List.forall_mem_cons.mpr ⟨lw_p26, List.forall_mem_cons.mpr ⟨lw_p27, List.forall_mem_cons.mpr ⟨lw_p28, List.forall_mem_cons.mpr ⟨lw_p29, List.forall_mem_cons.mpr ⟨lw_p30, List.forall_mem_cons.mpr ⟨lw_p31, fun _ h => absurd h List.not_mem_nil⟩⟩⟩⟩⟩⟩⟩⟩⟩⟩⟩⟩⟩⟩⟩⟩
theorem lw_p32 : lw_okq (⟨"WindowCacheModel", "lower", "()V"⟩, 49) := ⟨⟨by decide +kernel, by decide +kernel⟩, List.mem_of_getElem? (i := 690) (by decide +kernel), List.mem_of_getElem? (i := 931) (by decide +kernel), List.mem_of_getElem? (i := 932) (by decide +kernel)⟩
theorem lw_p33 : lw_okq (⟨"WindowCacheModel", "weightOf", "(I)I"⟩, 49) := ⟨⟨by decide +kernel, by decide +kernel⟩, List.mem_of_getElem? (i := 690) (by decide +kernel), List.mem_of_getElem? (i := 935) (by decide +kernel), List.mem_of_getElem? (i := 936) (by decide +kernel)⟩
theorem lw_p34 : lw_okq (⟨"WindowCacheModel", "earliest", "(I)I"⟩, 49) := ⟨⟨by decide +kernel, by decide +kernel⟩, List.mem_of_getElem? (i := 690) (by decide +kernel), List.mem_of_getElem? (i := 939) (by decide +kernel), List.mem_of_getElem? (i := 940) (by decide +kernel)⟩
theorem lw_p35 : lw_okq (⟨"WindowCacheModel", "workTasks", "()V"⟩, 49) := ⟨⟨by decide +kernel, by decide +kernel⟩, List.mem_of_getElem? (i := 690) (by decide +kernel), List.mem_of_getElem? (i := 943) (by decide +kernel), List.mem_of_getElem? (i := 944) (by decide +kernel)⟩
theorem lw_p36 : lw_okq (⟨"WindowCacheModel", "expire", "()V"⟩, 49) := ⟨⟨by decide +kernel, by decide +kernel⟩, List.mem_of_getElem? (i := 690) (by decide +kernel), List.mem_of_getElem? (i := 947) (by decide +kernel), List.mem_of_getElem? (i := 948) (by decide +kernel)⟩
theorem lw_p37 : lw_okq (⟨"WindowCacheModel", "shrink", "()V"⟩, 49) := ⟨⟨by decide +kernel, by decide +kernel⟩, List.mem_of_getElem? (i := 690) (by decide +kernel), List.mem_of_getElem? (i := 951) (by decide +kernel), List.mem_of_getElem? (i := 952) (by decide +kernel)⟩
theorem lw_p38 : lw_okq (⟨"WindowCacheModel", "all", "()I"⟩, 49) := ⟨⟨by decide +kernel, by decide +kernel⟩, List.mem_of_getElem? (i := 690) (by decide +kernel), List.mem_of_getElem? (i := 955) (by decide +kernel), List.mem_of_getElem? (i := 956) (by decide +kernel)⟩
theorem lw_p39 : lw_okq (⟨"WindowCacheModel", "nextCandidate", "()I"⟩, 49) := ⟨⟨by decide +kernel, by decide +kernel⟩, List.mem_of_getElem? (i := 690) (by decide +kernel), List.mem_of_getElem? (i := 959) (by decide +kernel), List.mem_of_getElem? (i := 960) (by decide +kernel)⟩
theorem lw_p40 : lw_okq (⟨"WindowCacheModel", "often0", "(I)I"⟩, 49) := ⟨⟨by decide +kernel, by decide +kernel⟩, List.mem_of_getElem? (i := 690) (by decide +kernel), List.mem_of_getElem? (i := 963) (by decide +kernel), List.mem_of_getElem? (i := 964) (by decide +kernel)⟩
theorem lw_p41 : lw_okq (⟨"WindowCacheModel", "drawn", "()Z"⟩, 49) := ⟨⟨by decide +kernel, by decide +kernel⟩, List.mem_of_getElem? (i := 690) (by decide +kernel), List.mem_of_getElem? (i := 967) (by decide +kernel), List.mem_of_getElem? (i := 968) (by decide +kernel)⟩
theorem lw_p42 : lw_okq (⟨"WindowCacheModel", "evict", "(I)V"⟩, 49) := ⟨⟨by decide +kernel, by decide +kernel⟩, List.mem_of_getElem? (i := 690) (by decide +kernel), List.mem_of_getElem? (i := 971) (by decide +kernel), List.mem_of_getElem? (i := 972) (by decide +kernel)⟩
theorem lw_p43 : lw_okq (⟨"WindowCacheModel", "climb", "()V"⟩, 49) := ⟨⟨by decide +kernel, by decide +kernel⟩, List.mem_of_getElem? (i := 690) (by decide +kernel), List.mem_of_getElem? (i := 975) (by decide +kernel), List.mem_of_getElem? (i := 976) (by decide +kernel)⟩
theorem lw_p44 : lw_okq (⟨"WindowCacheModel", "inMap", "(Z)I"⟩, 49) := ⟨⟨by decide +kernel, by decide +kernel⟩, List.mem_of_getElem? (i := 690) (by decide +kernel), List.mem_of_getElem? (i := 1014) (by decide +kernel), List.mem_of_getElem? (i := 1015) (by decide +kernel)⟩
theorem lw_p45 : lw_okq (⟨"WindowCacheModel", "onWay", "()I"⟩, 49) := ⟨⟨by decide +kernel, by decide +kernel⟩, List.mem_of_getElem? (i := 690) (by decide +kernel), List.mem_of_getElem? (i := 1018) (by decide +kernel), List.mem_of_getElem? (i := 1019) (by decide +kernel)⟩
def lw_privs_3 : List (MethodName × Nat) := [(⟨"WindowCacheModel", "lower", "()V"⟩, 49), (⟨"WindowCacheModel", "weightOf", "(I)I"⟩, 49), (⟨"WindowCacheModel", "earliest", "(I)I"⟩, 49), (⟨"WindowCacheModel", "workTasks", "()V"⟩, 49), (⟨"WindowCacheModel", "expire", "()V"⟩, 49), (⟨"WindowCacheModel", "shrink", "()V"⟩, 49), (⟨"WindowCacheModel", "all", "()I"⟩, 49), (⟨"WindowCacheModel", "nextCandidate", "()I"⟩, 49), (⟨"WindowCacheModel", "often0", "(I)I"⟩, 49), (⟨"WindowCacheModel", "drawn", "()Z"⟩, 49), (⟨"WindowCacheModel", "evict", "(I)V"⟩, 49), (⟨"WindowCacheModel", "climb", "()V"⟩, 49), (⟨"WindowCacheModel", "inMap", "(Z)I"⟩, 49), (⟨"WindowCacheModel", "onWay", "()I"⟩, 49)]
theorem lw_r3 : ∀ q ∈ lw_privs_3, lw_okq q := List.forall_mem_cons.mpr ⟨lw_p32, List.forall_mem_cons.mpr ⟨lw_p33, List.forall_mem_cons.mpr ⟨lw_p34, List.forall_mem_cons.mpr ⟨lw_p35, List.forall_mem_cons.mpr ⟨lw_p36, List.forall_mem_cons.mpr ⟨lw_p37, List.forall_mem_cons.mpr ⟨lw_p38, List.forall_mem_cons.mpr ⟨lw_p39, List.forall_mem_cons.mpr ⟨lw_p40, List.forall_mem_cons.mpr ⟨lw_p41, List.forall_mem_cons.mpr ⟨lw_p42, List.forall_mem_cons.mpr ⟨lw_p43, List.forall_mem_cons.mpr ⟨lw_p44, List.forall_mem_cons.mpr ⟨lw_p45, fun _ h => absurd h List.not_mem_nil⟩⟩⟩⟩⟩⟩⟩⟩⟩⟩⟩⟩⟩⟩
def lw_privs : List (MethodName × Nat) := lw_privs_1 ++ (lw_privs_2 ++ (lw_privs_3))
def lw_tbl : List Cond := k2_sels lw_privs ++ tables_1
theorem lw_privs_ok : ∀ q ∈ lw_privs, lw_okq q := by
  show ∀ q ∈ lw_privs_1 ++ (lw_privs_2 ++ (lw_privs_3)), lw_okq q
  exact List.forall_mem_append.mpr ⟨lw_r1, List.forall_mem_append.mpr ⟨lw_r2, lw_r3⟩⟩

/-! names of the classes, their fields (declarer, name, descriptor, final), how many, their types -/
def kR (c : Nat) : String := match c with
  | 0 => "WindowCache"
  | 1 => "WindowCache$Climb"
  | 2 => "WindowCache$Counts"
  | 3 => "WindowCache$Entry"
  | 4 => "WindowCache$Lives"
  | 5 => "WindowCache$Log"
  | 6 => "WindowCache$Notes"
  | 7 => "WindowCache$Room"
  | 8 => "WindowCache$Rooms"
  | 9 => "WindowCache$Tasks"
  | 10 => "WindowCache$Way"
  | _ => "WindowCacheModel"
def kT0 : u_T := fun k => match k with
  | 0 => ("WindowCache", "map", "[LWindowCache$Entry;", true)
  | 1 => ("WindowCache", "ways", "[LWindowCache$Way;", true)
  | 2 => ("WindowCache", "evenNotes", "LWindowCache$Notes;", true)
  | 3 => ("WindowCache", "oddNotes", "LWindowCache$Notes;", true)
  | 4 => ("WindowCache", "tasks", "LWindowCache$Tasks;", true)
  | 5 => ("WindowCache", "log", "LWindowCache$Log;", true)
  | 6 => ("WindowCache", "lives", "LWindowCache$Lives;", true)
  | 7 => ("WindowCache", "counts", "LWindowCache$Counts;", true)
  | 8 => ("WindowCache", "rooms", "LWindowCache$Rooms;", true)
  | 9 => ("WindowCache", "climb", "LWindowCache$Climb;", true)
  | 10 => ("WindowCache", "draw", "I", false)
  | 11 => ("WindowCache", "finished", "I", false)
  | 12 => ("WindowCache", "failed", "I", false)
  | 13 => ("WindowCache", "evicted", "I", false)
  | _ => ("WindowCache", "evictedWeight", "I", false)
def kY0 : Nat → FieldType := fun k => match k with
  | 0 => (.array (.object "WindowCache$Entry"))
  | 1 => (.array (.object "WindowCache$Way"))
  | 2 => (.object "WindowCache$Notes")
  | 3 => (.object "WindowCache$Notes")
  | 4 => (.object "WindowCache$Tasks")
  | 5 => (.object "WindowCache$Log")
  | 6 => (.object "WindowCache$Lives")
  | 7 => (.object "WindowCache$Counts")
  | 8 => (.object "WindowCache$Rooms")
  | 9 => (.object "WindowCache$Climb")
  | 10 => .int
  | 11 => .int
  | 12 => .int
  | 13 => .int
  | _ => .int
def kT1 : u_T := fun k => match k with
  | 0 => ("WindowCache$Climb", "askedUntilDue", "I", true)
  | 1 => ("WindowCache$Climb", "firstStep", "I", true)
  | 2 => ("WindowCache$Climb", "hits", "I", false)
  | 3 => ("WindowCache$Climb", "misses", "I", false)
  | 4 => ("WindowCache$Climb", "hitsBefore", "I", false)
  | 5 => ("WindowCache$Climb", "askedBefore", "I", false)
  | 6 => ("WindowCache$Climb", "rate", "I", false)
  | 7 => ("WindowCache$Climb", "step", "I", false)
  | _ => ("WindowCache$Climb", "up", "Z", false)
def kY1 : Nat → FieldType := fun k => match k with
  | 0 => .int
  | 1 => .int
  | 2 => .int
  | 3 => .int
  | 4 => .int
  | 5 => .int
  | 6 => .int
  | 7 => .int
  | _ => .boolean
def kT2 : u_T := fun k => match k with
  | 0 => ("WindowCache$Counts", "size", "I", true)
  | 1 => ("WindowCache$Counts", "words", "[I", true)
  | _ => ("WindowCache$Counts", "added", "I", false)
def kY2 : Nat → FieldType := fun k => match k with
  | 0 => .int
  | 1 => (.array .int)
  | _ => .int
def kT3 : u_T := fun k => match k with
  | 0 => ("WindowCache$Entry", "key", "I", true)
  | 1 => ("WindowCache$Entry", "value", "I", false)
  | 2 => ("WindowCache$Entry", "weight", "I", false)
  | 3 => ("WindowCache$Entry", "edition", "I", false)
  | 4 => ("WindowCache$Entry", "fixedEnd", "J", false)
  | 5 => ("WindowCache$Entry", "end", "J", false)
  | 6 => ("WindowCache$Entry", "livesByTouch", "Z", false)
  | 7 => ("WindowCache$Entry", "gone", "Z", false)
  | 8 => ("WindowCache$Entry", "room", "LWindowCache$Room;", false)
  | 9 => ("WindowCache$Entry", "earlier", "LWindowCache$Entry;", false)
  | _ => ("WindowCache$Entry", "later", "LWindowCache$Entry;", false)
def kY3 : Nat → FieldType := fun k => match k with
  | 0 => .int
  | 1 => .int
  | 2 => .int
  | 3 => .int
  | 4 => .long
  | 5 => .long
  | 6 => .boolean
  | 7 => .boolean
  | 8 => (.object "WindowCache$Room")
  | 9 => (.object "WindowCache$Entry")
  | _ => (.object "WindowCache$Entry")
def kT4 : u_T := fun k => match k with
  | 0 => ("WindowCache$Lives", "write", "I", true)
  | 1 => ("WindowCache$Lives", "touch", "I", true)
  | _ => ("WindowCache$Lives", "time", "J", false)
def kY4 : Nat → FieldType := fun k => match k with
  | 0 => .int
  | 1 => .int
  | _ => .long
def kT5 : u_T := fun k => match k with
  | 0 => ("WindowCache$Log", "keys", "[I", true)
  | 1 => ("WindowCache$Log", "values", "[I", true)
  | 2 => ("WindowCache$Log", "whys", "[I", true)
  | _ => ("WindowCache$Log", "size", "I", false)
def kY5 : Nat → FieldType := fun k => match k with
  | 0 => (.array .int)
  | 1 => (.array .int)
  | 2 => (.array .int)
  | _ => .int
def kT6 : u_T := fun k => match k with
  | 0 => ("WindowCache$Notes", "entries", "[LWindowCache$Entry;", true)
  | 1 => ("WindowCache$Notes", "size", "I", false)
  | _ => ("WindowCache$Notes", "lost", "I", false)
def kY6 : Nat → FieldType := fun k => match k with
  | 0 => (.array (.object "WindowCache$Entry"))
  | 1 => .int
  | _ => .int
def kT7 : u_T := fun k => match k with
  | 0 => ("WindowCache$Room", "earliest", "LWindowCache$Entry;", false)
  | 1 => ("WindowCache$Room", "latest", "LWindowCache$Entry;", false)
  | 2 => ("WindowCache$Room", "weight", "I", false)
  | _ => ("WindowCache$Room", "size", "I", false)
def kY7 : Nat → FieldType := fun k => match k with
  | 0 => (.object "WindowCache$Entry")
  | 1 => (.object "WindowCache$Entry")
  | 2 => .int
  | _ => .int
def kT8 : u_T := fun k => match k with
  | 0 => ("WindowCache$Rooms", "max", "I", true)
  | 1 => ("WindowCache$Rooms", "window", "LWindowCache$Room;", true)
  | 2 => ("WindowCache$Rooms", "probation", "LWindowCache$Room;", true)
  | 3 => ("WindowCache$Rooms", "shielded", "LWindowCache$Room;", true)
  | _ => ("WindowCache$Rooms", "windowLimit", "I", false)
def kY8 : Nat → FieldType := fun k => match k with
  | 0 => .int
  | 1 => (.object "WindowCache$Room")
  | 2 => (.object "WindowCache$Room")
  | 3 => (.object "WindowCache$Room")
  | _ => .int
def kT9 : u_T := fun k => match k with
  | 0 => ("WindowCache$Tasks", "entries", "[LWindowCache$Entry;", true)
  | 1 => ("WindowCache$Tasks", "kinds", "[I", true)
  | _ => ("WindowCache$Tasks", "size", "I", false)
def kY9 : Nat → FieldType := fun k => match k with
  | 0 => (.array (.object "WindowCache$Entry"))
  | 1 => (.array .int)
  | _ => .int
def kT10 : u_T := fun k => match k with
  | 0 => ("WindowCache$Way", "entry", "LWindowCache$Entry;", true)
  | _ => ("WindowCache$Way", "edition", "I", true)
def kY10 : Nat → FieldType := fun k => match k with
  | 0 => (.object "WindowCache$Entry")
  | _ => .int
def kT11 : u_T := fun k => match k with
  | 0 => ("WindowCacheModel", "thrown", "I", false)
  | 1 => ("WindowCacheModel", "max", "I", true)
  | 2 => ("WindowCacheModel", "write", "I", true)
  | 3 => ("WindowCacheModel", "touch", "I", true)
  | 4 => ("WindowCacheModel", "size", "I", true)
  | 5 => ("WindowCacheModel", "time", "J", false)
  | 6 => ("WindowCacheModel", "entryOf", "[I", true)
  | 7 => ("WindowCacheModel", "way", "[I", true)
  | 8 => ("WindowCacheModel", "wayEntry", "[I", true)
  | 9 => ("WindowCacheModel", "wayPuts", "[I", true)
  | 10 => ("WindowCacheModel", "entries", "I", false)
  | 11 => ("WindowCacheModel", "key", "[I", true)
  | 12 => ("WindowCacheModel", "value", "[I", true)
  | 13 => ("WindowCacheModel", "weight", "[I", true)
  | 14 => ("WindowCacheModel", "own", "[I", true)
  | 15 => ("WindowCacheModel", "room", "[I", true)
  | 16 => ("WindowCacheModel", "puts", "[I", true)
  | 17 => ("WindowCacheModel", "putAt", "[J", true)
  | 18 => ("WindowCacheModel", "gotAt", "[J", true)
  | 19 => ("WindowCacheModel", "stamp", "[J", true)
  | 20 => ("WindowCacheModel", "there", "[Z", true)
  | 21 => ("WindowCacheModel", "candidate", "[Z", true)
  | 22 => ("WindowCacheModel", "stamps", "J", false)
  | 23 => ("WindowCacheModel", "notes", "[I", true)
  | 24 => ("WindowCacheModel", "noted", "[I", true)
  | 25 => ("WindowCacheModel", "taskKind", "[I", true)
  | 26 => ("WindowCacheModel", "taskEntry", "[I", true)
  | 27 => ("WindowCacheModel", "tasks", "I", false)
  | 28 => ("WindowCacheModel", "lost", "I", false)
  | 29 => ("WindowCacheModel", "added", "I", false)
  | 30 => ("WindowCacheModel", "counts", "[I", true)
  | 31 => ("WindowCacheModel", "odd", "[I", true)
  | 32 => ("WindowCacheModel", "window", "I", false)
  | 33 => ("WindowCacheModel", "step", "I", false)
  | 34 => ("WindowCacheModel", "rate", "I", false)
  | 35 => ("WindowCacheModel", "draw", "I", false)
  | 36 => ("WindowCacheModel", "up", "Z", false)
  | 37 => ("WindowCacheModel", "hits", "I", false)
  | 38 => ("WindowCacheModel", "misses", "I", false)
  | 39 => ("WindowCacheModel", "newHits", "I", false)
  | 40 => ("WindowCacheModel", "newMisses", "I", false)
  | 41 => ("WindowCacheModel", "finished", "I", false)
  | 42 => ("WindowCacheModel", "failed", "I", false)
  | 43 => ("WindowCacheModel", "evicted", "I", false)
  | 44 => ("WindowCacheModel", "evictedWeight", "I", false)
  | 45 => ("WindowCacheModel", "heard", "I", false)
  | 46 => ("WindowCacheModel", "heardKey", "[I", true)
  | 47 => ("WindowCacheModel", "heardValue", "[I", true)
  | _ => ("WindowCacheModel", "heardWhy", "[I", true)
def kY11 : Nat → FieldType := fun k => match k with
  | 0 => .int
  | 1 => .int
  | 2 => .int
  | 3 => .int
  | 4 => .int
  | 5 => .long
  | 6 => (.array .int)
  | 7 => (.array .int)
  | 8 => (.array .int)
  | 9 => (.array .int)
  | 10 => .int
  | 11 => (.array .int)
  | 12 => (.array .int)
  | 13 => (.array .int)
  | 14 => (.array .int)
  | 15 => (.array .int)
  | 16 => (.array .int)
  | 17 => (.array .long)
  | 18 => (.array .long)
  | 19 => (.array .long)
  | 20 => (.array .boolean)
  | 21 => (.array .boolean)
  | 22 => .long
  | 23 => (.array .int)
  | 24 => (.array .int)
  | 25 => (.array .int)
  | 26 => (.array .int)
  | 27 => .int
  | 28 => .int
  | 29 => .int
  | 30 => (.array .int)
  | 31 => (.array .int)
  | 32 => .int
  | 33 => .int
  | 34 => .int
  | 35 => .int
  | 36 => .boolean
  | 37 => .int
  | 38 => .int
  | 39 => .int
  | 40 => .int
  | 41 => .int
  | 42 => .int
  | 43 => .int
  | 44 => .int
  | 45 => .int
  | 46 => (.array .int)
  | 47 => (.array .int)
  | _ => (.array .int)
def kT (c : Nat) : u_T := match c with
  | 0 => kT0
  | 1 => kT1
  | 2 => kT2
  | 3 => kT3
  | 4 => kT4
  | 5 => kT5
  | 6 => kT6
  | 7 => kT7
  | 8 => kT8
  | 9 => kT9
  | 10 => kT10
  | _ => kT11
def kY (c : Nat) : Nat → FieldType := match c with
  | 0 => kY0
  | 1 => kY1
  | 2 => kY2
  | 3 => kY3
  | 4 => kY4
  | 5 => kY5
  | 6 => kY6
  | 7 => kY7
  | 8 => kY8
  | 9 => kY9
  | 10 => kY10
  | _ => kY11
def kN (c : Nat) : Nat := match c with
  | 0 => 15
  | 1 => 9
  | 2 => 3
  | 3 => 11
  | 4 => 3
  | 5 => 4
  | 6 => 3
  | 7 => 4
  | 8 => 5
  | 9 => 3
  | 10 => 2
  | _ => 49
def kcl : List vw_C := [(kR 0, kT 0, kN 0), (kR 1, kT 1, kN 1), (kR 2, kT 2, kN 2), (kR 3, kT 3, kN 3), (kR 4, kT 4, kN 4), (kR 5, kT 5, kN 5), (kR 6, kT 6, kN 6), (kR 7, kT 7, kN 7), (kR 8, kT 8, kN 8), (kR 9, kT 9, kN 9), (kR 10, kT 10, kN 10), (kR 11, kT 11, kN 11)]
theorem kcl_at {c : Nat} (h : c < 12) : kcl[c]? = some (kR c, kT c, kN c) := by
  rcases (show c = 0 ∨ c = 1 ∨ c = 2 ∨ c = 3 ∨ c = 4 ∨ c = 5 ∨ c = 6 ∨ c = 7 ∨ c = 8 ∨ c = 9 ∨ c = 10 ∨ c = 11 by omega) with rfl | rfl | rfl | rfl | rfl | rfl | rfl | rfl | rfl | rfl | rfl | rfl <;> rfl
theorem kY_ok0 : ∀ k, k < kN 0 → parseFieldDescriptor (kT 0 k).2.2.1 = some (kY 0 k) := by decide +kernel
theorem knm0 : ∀ a, a < kN 0 → ∀ b, b < kN 0 → a ≠ b → (kT 0 a).2.1 ≠ (kT 0 b).2.1 := by decide +kernel
theorem kY_ok1 : ∀ k, k < kN 1 → parseFieldDescriptor (kT 1 k).2.2.1 = some (kY 1 k) := by decide +kernel
theorem knm1 : ∀ a, a < kN 1 → ∀ b, b < kN 1 → a ≠ b → (kT 1 a).2.1 ≠ (kT 1 b).2.1 := by decide +kernel
theorem kY_ok2 : ∀ k, k < kN 2 → parseFieldDescriptor (kT 2 k).2.2.1 = some (kY 2 k) := by decide +kernel
theorem knm2 : ∀ a, a < kN 2 → ∀ b, b < kN 2 → a ≠ b → (kT 2 a).2.1 ≠ (kT 2 b).2.1 := by decide +kernel
theorem kY_ok3 : ∀ k, k < kN 3 → parseFieldDescriptor (kT 3 k).2.2.1 = some (kY 3 k) := by decide +kernel
theorem knm3 : ∀ a, a < kN 3 → ∀ b, b < kN 3 → a ≠ b → (kT 3 a).2.1 ≠ (kT 3 b).2.1 := by decide +kernel
theorem kY_ok4 : ∀ k, k < kN 4 → parseFieldDescriptor (kT 4 k).2.2.1 = some (kY 4 k) := by decide +kernel
theorem knm4 : ∀ a, a < kN 4 → ∀ b, b < kN 4 → a ≠ b → (kT 4 a).2.1 ≠ (kT 4 b).2.1 := by decide +kernel
theorem kY_ok5 : ∀ k, k < kN 5 → parseFieldDescriptor (kT 5 k).2.2.1 = some (kY 5 k) := by decide +kernel
theorem knm5 : ∀ a, a < kN 5 → ∀ b, b < kN 5 → a ≠ b → (kT 5 a).2.1 ≠ (kT 5 b).2.1 := by decide +kernel
theorem kY_ok6 : ∀ k, k < kN 6 → parseFieldDescriptor (kT 6 k).2.2.1 = some (kY 6 k) := by decide +kernel
theorem knm6 : ∀ a, a < kN 6 → ∀ b, b < kN 6 → a ≠ b → (kT 6 a).2.1 ≠ (kT 6 b).2.1 := by decide +kernel
theorem kY_ok7 : ∀ k, k < kN 7 → parseFieldDescriptor (kT 7 k).2.2.1 = some (kY 7 k) := by decide +kernel
theorem knm7 : ∀ a, a < kN 7 → ∀ b, b < kN 7 → a ≠ b → (kT 7 a).2.1 ≠ (kT 7 b).2.1 := by decide +kernel
theorem kY_ok8 : ∀ k, k < kN 8 → parseFieldDescriptor (kT 8 k).2.2.1 = some (kY 8 k) := by decide +kernel
theorem knm8 : ∀ a, a < kN 8 → ∀ b, b < kN 8 → a ≠ b → (kT 8 a).2.1 ≠ (kT 8 b).2.1 := by decide +kernel
theorem kY_ok9 : ∀ k, k < kN 9 → parseFieldDescriptor (kT 9 k).2.2.1 = some (kY 9 k) := by decide +kernel
theorem knm9 : ∀ a, a < kN 9 → ∀ b, b < kN 9 → a ≠ b → (kT 9 a).2.1 ≠ (kT 9 b).2.1 := by decide +kernel
theorem kY_ok10 : ∀ k, k < kN 10 → parseFieldDescriptor (kT 10 k).2.2.1 = some (kY 10 k) := by decide +kernel
theorem knm10 : ∀ a, a < kN 10 → ∀ b, b < kN 10 → a ≠ b → (kT 10 a).2.1 ≠ (kT 10 b).2.1 := by decide +kernel
theorem kY_ok11 : ∀ k, k < kN 11 → parseFieldDescriptor (kT 11 k).2.2.1 = some (kY 11 k) := by decide +kernel
theorem knm11 : ∀ a, a < kN 11 → ∀ b, b < kN 11 → a ≠ b → (kT 11 a).2.1 ≠ (kT 11 b).2.1 := by decide +kernel
theorem kY_ok {c : Nat} (h : c < 12) : ∀ k, k < kN c → parseFieldDescriptor (kT c k).2.2.1 = some (kY c k) := by
  rcases (show c = 0 ∨ c = 1 ∨ c = 2 ∨ c = 3 ∨ c = 4 ∨ c = 5 ∨ c = 6 ∨ c = 7 ∨ c = 8 ∨ c = 9 ∨ c = 10 ∨ c = 11 by omega) with rfl | rfl | rfl | rfl | rfl | rfl | rfl | rfl | rfl | rfl | rfl | rfl
  · exact kY_ok0
  · exact kY_ok1
  · exact kY_ok2
  · exact kY_ok3
  · exact kY_ok4
  · exact kY_ok5
  · exact kY_ok6
  · exact kY_ok7
  · exact kY_ok8
  · exact kY_ok9
  · exact kY_ok10
  · exact kY_ok11
theorem knm {c : Nat} (h : c < 12) : ∀ a, a < kN c → ∀ b, b < kN c → a ≠ b → (kT c a).2.1 ≠ (kT c b).2.1 := by
  rcases (show c = 0 ∨ c = 1 ∨ c = 2 ∨ c = 3 ∨ c = 4 ∨ c = 5 ∨ c = 6 ∨ c = 7 ∨ c = 8 ∨ c = 9 ∨ c = 10 ∨ c = 11 by omega) with rfl | rfl | rfl | rfl | rfl | rfl | rfl | rfl | rfl | rfl | rfl | rfl
  · exact knm0
  · exact knm1
  · exact knm2
  · exact knm3
  · exact knm4
  · exact knm5
  · exact knm6
  · exact knm7
  · exact knm8
  · exact knm9
  · exact knm10
  · exact knm11
end
section
theorem q0 : (Jvm.Cond.initialized "WindowCacheLaw") ∈ lw_tbl := List.mem_append_right _ (List.mem_of_getElem? (i := 0) (by decide +kernel))
theorem q1 : (Jvm.Cond.initialized "WindowCache") ∈ lw_tbl := List.mem_append_right _ (List.mem_of_getElem? (i := 1) (by decide +kernel))
theorem q2 : (Jvm.Cond.initialized "WindowCache$Notes") ∈ lw_tbl := List.mem_append_right _ (List.mem_of_getElem? (i := 2) (by decide +kernel))
theorem q3 : (Jvm.Cond.initialized "WindowCache$Tasks") ∈ lw_tbl := List.mem_append_right _ (List.mem_of_getElem? (i := 3) (by decide +kernel))
theorem q4 : (Jvm.Cond.initialized "WindowCache$Log") ∈ lw_tbl := List.mem_append_right _ (List.mem_of_getElem? (i := 4) (by decide +kernel))
theorem q5 : (Jvm.Cond.initialized "java/lang/Math") ∈ lw_tbl := List.mem_append_right _ (List.mem_of_getElem? (i := 5) (by decide +kernel))
theorem q6 : (Jvm.Cond.initialized "WindowCache$Lives") ∈ lw_tbl := List.mem_append_right _ (List.mem_of_getElem? (i := 6) (by decide +kernel))
theorem q7 : (Jvm.Cond.initialized "WindowCache$Counts") ∈ lw_tbl := List.mem_append_right _ (List.mem_of_getElem? (i := 7) (by decide +kernel))
theorem q8 : (Jvm.Cond.initialized "WindowCache$Rooms") ∈ lw_tbl := List.mem_append_right _ (List.mem_of_getElem? (i := 8) (by decide +kernel))
theorem q9 : (Jvm.Cond.initialized "WindowCache$Room") ∈ lw_tbl := List.mem_append_right _ (List.mem_of_getElem? (i := 9) (by decide +kernel))
theorem q10 : (Jvm.Cond.initialized "WindowCache$Climb") ∈ lw_tbl := List.mem_append_right _ (List.mem_of_getElem? (i := 10) (by decide +kernel))
theorem q11 : (Jvm.Cond.initialized "WindowCacheModel") ∈ lw_tbl := List.mem_append_right _ (List.mem_of_getElem? (i := 11) (by decide +kernel))
theorem q12 : (Jvm.Cond.initialized "java/lang/Throwable") ∈ lw_tbl := List.mem_append_right _ (List.mem_of_getElem? (i := 12) (by decide +kernel))
theorem q13 : (Jvm.Cond.initialized "java/lang/Exception") ∈ lw_tbl := List.mem_append_right _ (List.mem_of_getElem? (i := 13) (by decide +kernel))
theorem q14 : (Jvm.Cond.initialized "java/lang/RuntimeException") ∈ lw_tbl := List.mem_append_right _ (List.mem_of_getElem? (i := 14) (by decide +kernel))
theorem q15 : (Jvm.Cond.initialized "java/lang/IllegalArgumentException") ∈ lw_tbl := List.mem_append_right _ (List.mem_of_getElem? (i := 15) (by decide +kernel))
theorem q16 : (Jvm.Cond.initialized "java/lang/Integer") ∈ lw_tbl := List.mem_append_right _ (List.mem_of_getElem? (i := 16) (by decide +kernel))
theorem q17 : (Jvm.Cond.initialized "WindowCache$Entry") ∈ lw_tbl := List.mem_append_right _ (List.mem_of_getElem? (i := 17) (by decide +kernel))
theorem q18 : (Jvm.Cond.initialized "java/lang/IllegalStateException") ∈ lw_tbl := List.mem_append_right _ (List.mem_of_getElem? (i := 18) (by decide +kernel))
theorem q19 : (Jvm.Cond.initialized "WindowCache$Way") ∈ lw_tbl := List.mem_append_right _ (List.mem_of_getElem? (i := 19) (by decide +kernel))
theorem q20 : (Jvm.Cond.classLink "WindowCacheLaw" (8 : Nat) "WindowCache") ∈ lw_tbl := List.mem_append_right _ (List.mem_of_getElem? (i := 20) (by decide +kernel))
theorem q21 : (Jvm.Cond.instantiable "WindowCache" (15 : Nat)) ∈ lw_tbl := List.mem_append_right _ (List.mem_of_getElem? (i := 21) (by decide +kernel))
theorem q22 : (Jvm.Cond.methodLink "WindowCacheLaw" (35 : Nat) ({ cls := "WindowCache", name := "<init>", desc := "(III)V" } : Jvm.MethodName)) ∈ lw_tbl := List.mem_append_right _ (List.mem_of_getElem? (i := 22) (by decide +kernel))
theorem q23 : (Jvm.Cond.instanceMethod ({ cls := "WindowCache", name := "<init>", desc := "(III)V" } : Jvm.MethodName)) ∈ lw_tbl := List.mem_append_right _ (List.mem_of_getElem? (i := 23) (by decide +kernel))
theorem q24 : (Jvm.Cond.code ({ cls := "WindowCache", name := "<init>", desc := "(III)V" } : Jvm.MethodName) prog_1_method_1_code (5 : Nat) (Option.none : Option Jvm.ClassFile.FieldType)) ∈ lw_tbl := List.mem_append_right _ (List.mem_of_getElem? (i := 24) (by decide +kernel))
theorem q25 : (Jvm.Cond.methodLink "WindowCache" (1 : Nat) ({ cls := "java/lang/Object", name := "<init>", desc := "()V" } : Jvm.MethodName)) ∈ lw_tbl := List.mem_append_right _ (List.mem_of_getElem? (i := 25) (by decide +kernel))
theorem q26 : (Jvm.Cond.instanceMethod ({ cls := "java/lang/Object", name := "<init>", desc := "()V" } : Jvm.MethodName)) ∈ lw_tbl := List.mem_append_right _ (List.mem_of_getElem? (i := 26) (by decide +kernel))
theorem q27 : (Jvm.Cond.code ({ cls := "java/lang/Object", name := "<init>", desc := "()V" } : Jvm.MethodName) object_method_1_code (1 : Nat) (Option.none : Option Jvm.ClassFile.FieldType)) ∈ lw_tbl := List.mem_append_right _ (List.mem_of_getElem? (i := 27) (by decide +kernel))
theorem q28 : (Jvm.Cond.classLink "WindowCache" (9 : Nat) "WindowCache$Entry") ∈ lw_tbl := List.mem_append_right _ (List.mem_of_getElem? (i := 28) (by decide +kernel))
theorem q29 : (Jvm.Cond.arrayOver (Jvm.ClassFile.FieldType.object "WindowCache$Entry")) ∈ lw_tbl := List.mem_append_right _ (List.mem_of_getElem? (i := 29) (by decide +kernel))
theorem q30 : (Jvm.Cond.classLink "WindowCache" (15 : Nat) "WindowCache$Way") ∈ lw_tbl := List.mem_append_right _ (List.mem_of_getElem? (i := 30) (by decide +kernel))
theorem q31 : (Jvm.Cond.arrayOver (Jvm.ClassFile.FieldType.object "WindowCache$Way")) ∈ lw_tbl := List.mem_append_right _ (List.mem_of_getElem? (i := 31) (by decide +kernel))
theorem q32 : (Jvm.Cond.classLink "WindowCache" (21 : Nat) "WindowCache$Notes") ∈ lw_tbl := List.mem_append_right _ (List.mem_of_getElem? (i := 32) (by decide +kernel))
theorem q33 : (Jvm.Cond.instantiable "WindowCache$Notes" (3 : Nat)) ∈ lw_tbl := List.mem_append_right _ (List.mem_of_getElem? (i := 33) (by decide +kernel))
theorem q34 : (Jvm.Cond.methodLinkNest "WindowCache" (23 : Nat) ({ cls := "WindowCache$Notes", name := "<init>", desc := "()V" } : Jvm.MethodName) "WindowCache") ∈ lw_tbl := List.mem_append_right _ (List.mem_of_getElem? (i := 34) (by decide +kernel))
theorem q35 : (Jvm.Cond.instanceMethod ({ cls := "WindowCache$Notes", name := "<init>", desc := "()V" } : Jvm.MethodName)) ∈ lw_tbl := List.mem_append_right _ (List.mem_of_getElem? (i := 35) (by decide +kernel))
theorem q36 : (Jvm.Cond.code ({ cls := "WindowCache$Notes", name := "<init>", desc := "()V" } : Jvm.MethodName) prog_7_method_1_code (1 : Nat) (Option.none : Option Jvm.ClassFile.FieldType)) ∈ lw_tbl := List.mem_append_right _ (List.mem_of_getElem? (i := 36) (by decide +kernel))
theorem q37 : (Jvm.Cond.methodLink "WindowCache$Notes" (1 : Nat) ({ cls := "java/lang/Object", name := "<init>", desc := "()V" } : Jvm.MethodName)) ∈ lw_tbl := List.mem_append_right _ (List.mem_of_getElem? (i := 37) (by decide +kernel))
theorem q38 : (Jvm.Cond.classLink "WindowCache$Notes" (9 : Nat) "WindowCache$Entry") ∈ lw_tbl := List.mem_append_right _ (List.mem_of_getElem? (i := 38) (by decide +kernel))
theorem q39 : (Jvm.Cond.fieldLink "WindowCache$Notes" (11 : Nat) "WindowCache$Notes" "entries" "[LWindowCache$Entry;") ∈ lw_tbl := List.mem_append_right _ (List.mem_of_getElem? (i := 39) (by decide +kernel))
theorem q40 : (Jvm.Cond.fieldLink "WindowCache" (268 : Nat) "WindowCache$Notes" "entries" "[LWindowCache$Entry;") ∈ lw_tbl := List.mem_append_right _ (List.mem_of_getElem? (i := 40) (by decide +kernel))
theorem q41 : (Jvm.Cond.fieldLink "WindowCache$Notes" (15 : Nat) "WindowCache$Notes" "size" "I") ∈ lw_tbl := List.mem_append_right _ (List.mem_of_getElem? (i := 41) (by decide +kernel))
theorem q42 : (Jvm.Cond.fieldLink "WindowCache" (190 : Nat) "WindowCache$Notes" "size" "I") ∈ lw_tbl := List.mem_append_right _ (List.mem_of_getElem? (i := 42) (by decide +kernel))
theorem q43 : (Jvm.Cond.fieldLink "WindowCache$Notes" (19 : Nat) "WindowCache$Notes" "lost" "I") ∈ lw_tbl := List.mem_append_right _ (List.mem_of_getElem? (i := 43) (by decide +kernel))
theorem q44 : (Jvm.Cond.fieldLink "WindowCache" (197 : Nat) "WindowCache$Notes" "lost" "I") ∈ lw_tbl := List.mem_append_right _ (List.mem_of_getElem? (i := 44) (by decide +kernel))
theorem q45 : (Jvm.Cond.laysFinal "WindowCache$Notes" "WindowCache$Notes" "entries" "[LWindowCache$Entry;") ∈ lw_tbl := List.mem_append_right _ (List.mem_of_getElem? (i := 45) (by decide +kernel))
theorem q47 : (Jvm.Cond.lays "WindowCache$Notes" "WindowCache$Notes" "size" "I") ∈ lw_tbl := List.mem_append_right _ (List.mem_of_getElem? (i := 47) (by decide +kernel))
theorem q49 : (Jvm.Cond.lays "WindowCache$Notes" "WindowCache$Notes" "lost" "I") ∈ lw_tbl := List.mem_append_right _ (List.mem_of_getElem? (i := 49) (by decide +kernel))
theorem q52 : (Jvm.Cond.classLink "WindowCache" (31 : Nat) "WindowCache$Tasks") ∈ lw_tbl := List.mem_append_right _ (List.mem_of_getElem? (i := 52) (by decide +kernel))
theorem q53 : (Jvm.Cond.instantiable "WindowCache$Tasks" (3 : Nat)) ∈ lw_tbl := List.mem_append_right _ (List.mem_of_getElem? (i := 53) (by decide +kernel))
theorem q54 : (Jvm.Cond.methodLinkNest "WindowCache" (33 : Nat) ({ cls := "WindowCache$Tasks", name := "<init>", desc := "()V" } : Jvm.MethodName) "WindowCache") ∈ lw_tbl := List.mem_append_right _ (List.mem_of_getElem? (i := 54) (by decide +kernel))
theorem q55 : (Jvm.Cond.instanceMethod ({ cls := "WindowCache$Tasks", name := "<init>", desc := "()V" } : Jvm.MethodName)) ∈ lw_tbl := List.mem_append_right _ (List.mem_of_getElem? (i := 55) (by decide +kernel))
theorem q56 : (Jvm.Cond.code ({ cls := "WindowCache$Tasks", name := "<init>", desc := "()V" } : Jvm.MethodName) prog_10_method_1_code (1 : Nat) (Option.none : Option Jvm.ClassFile.FieldType)) ∈ lw_tbl := List.mem_append_right _ (List.mem_of_getElem? (i := 56) (by decide +kernel))
theorem q57 : (Jvm.Cond.methodLink "WindowCache$Tasks" (1 : Nat) ({ cls := "java/lang/Object", name := "<init>", desc := "()V" } : Jvm.MethodName)) ∈ lw_tbl := List.mem_append_right _ (List.mem_of_getElem? (i := 57) (by decide +kernel))
theorem q58 : (Jvm.Cond.classLink "WindowCache$Tasks" (9 : Nat) "WindowCache$Entry") ∈ lw_tbl := List.mem_append_right _ (List.mem_of_getElem? (i := 58) (by decide +kernel))
theorem q59 : (Jvm.Cond.fieldLink "WindowCache$Tasks" (11 : Nat) "WindowCache$Tasks" "entries" "[LWindowCache$Entry;") ∈ lw_tbl := List.mem_append_right _ (List.mem_of_getElem? (i := 59) (by decide +kernel))
theorem q60 : (Jvm.Cond.fieldLink "WindowCache" (276 : Nat) "WindowCache$Tasks" "entries" "[LWindowCache$Entry;") ∈ lw_tbl := List.mem_append_right _ (List.mem_of_getElem? (i := 60) (by decide +kernel))
theorem q61 : (Jvm.Cond.fieldLink "WindowCache$Tasks" (15 : Nat) "WindowCache$Tasks" "kinds" "[I") ∈ lw_tbl := List.mem_append_right _ (List.mem_of_getElem? (i := 61) (by decide +kernel))
theorem q62 : (Jvm.Cond.fieldLink "WindowCache" (277 : Nat) "WindowCache$Tasks" "kinds" "[I") ∈ lw_tbl := List.mem_append_right _ (List.mem_of_getElem? (i := 62) (by decide +kernel))
theorem q63 : (Jvm.Cond.fieldLink "WindowCache$Tasks" (19 : Nat) "WindowCache$Tasks" "size" "I") ∈ lw_tbl := List.mem_append_right _ (List.mem_of_getElem? (i := 63) (by decide +kernel))
theorem q64 : (Jvm.Cond.fieldLink "WindowCache" (193 : Nat) "WindowCache$Tasks" "size" "I") ∈ lw_tbl := List.mem_append_right _ (List.mem_of_getElem? (i := 64) (by decide +kernel))
theorem q65 : (Jvm.Cond.laysFinal "WindowCache$Tasks" "WindowCache$Tasks" "entries" "[LWindowCache$Entry;") ∈ lw_tbl := List.mem_append_right _ (List.mem_of_getElem? (i := 65) (by decide +kernel))
theorem q67 : (Jvm.Cond.laysFinal "WindowCache$Tasks" "WindowCache$Tasks" "kinds" "[I") ∈ lw_tbl := List.mem_append_right _ (List.mem_of_getElem? (i := 67) (by decide +kernel))
theorem q69 : (Jvm.Cond.lays "WindowCache$Tasks" "WindowCache$Tasks" "size" "I") ∈ lw_tbl := List.mem_append_right _ (List.mem_of_getElem? (i := 69) (by decide +kernel))
theorem q72 : (Jvm.Cond.arrayClass Jvm.ClassFile.FieldType.int) ∈ lw_tbl := List.mem_append_right _ (List.mem_of_getElem? (i := 72) (by decide +kernel))
theorem q73 : (Jvm.Cond.classLink "WindowCache" (38 : Nat) "WindowCache$Log") ∈ lw_tbl := List.mem_append_right _ (List.mem_of_getElem? (i := 73) (by decide +kernel))
theorem q74 : (Jvm.Cond.instantiable "WindowCache$Log" (4 : Nat)) ∈ lw_tbl := List.mem_append_right _ (List.mem_of_getElem? (i := 74) (by decide +kernel))
theorem q75 : (Jvm.Cond.methodLinkNest "WindowCache" (40 : Nat) ({ cls := "WindowCache$Log", name := "<init>", desc := "()V" } : Jvm.MethodName) "WindowCache") ∈ lw_tbl := List.mem_append_right _ (List.mem_of_getElem? (i := 75) (by decide +kernel))
theorem q76 : (Jvm.Cond.instanceMethod ({ cls := "WindowCache$Log", name := "<init>", desc := "()V" } : Jvm.MethodName)) ∈ lw_tbl := List.mem_append_right _ (List.mem_of_getElem? (i := 76) (by decide +kernel))
theorem q77 : (Jvm.Cond.code ({ cls := "WindowCache$Log", name := "<init>", desc := "()V" } : Jvm.MethodName) prog_6_method_1_code (1 : Nat) (Option.none : Option Jvm.ClassFile.FieldType)) ∈ lw_tbl := List.mem_append_right _ (List.mem_of_getElem? (i := 77) (by decide +kernel))
theorem q78 : (Jvm.Cond.methodLink "WindowCache$Log" (3 : Nat) ({ cls := "java/lang/Object", name := "<init>", desc := "()V" } : Jvm.MethodName)) ∈ lw_tbl := List.mem_append_right _ (List.mem_of_getElem? (i := 78) (by decide +kernel))
theorem q79 : (Jvm.Cond.fieldLink "WindowCache$Log" (11 : Nat) "WindowCache$Log" "keys" "[I") ∈ lw_tbl := List.mem_append_right _ (List.mem_of_getElem? (i := 79) (by decide +kernel))
theorem q80 : (Jvm.Cond.fieldLink "WindowCache$Log" (15 : Nat) "WindowCache$Log" "values" "[I") ∈ lw_tbl := List.mem_append_right _ (List.mem_of_getElem? (i := 80) (by decide +kernel))
theorem q81 : (Jvm.Cond.fieldLink "WindowCache$Log" (18 : Nat) "WindowCache$Log" "whys" "[I") ∈ lw_tbl := List.mem_append_right _ (List.mem_of_getElem? (i := 81) (by decide +kernel))
theorem q82 : (Jvm.Cond.fieldLink "WindowCache$Log" (21 : Nat) "WindowCache$Log" "size" "I") ∈ lw_tbl := List.mem_append_right _ (List.mem_of_getElem? (i := 82) (by decide +kernel))
theorem q83 : (Jvm.Cond.laysFinal "WindowCache$Log" "WindowCache$Log" "keys" "[I") ∈ lw_tbl := List.mem_append_right _ (List.mem_of_getElem? (i := 83) (by decide +kernel))
theorem q85 : (Jvm.Cond.laysFinal "WindowCache$Log" "WindowCache$Log" "values" "[I") ∈ lw_tbl := List.mem_append_right _ (List.mem_of_getElem? (i := 85) (by decide +kernel))
theorem q87 : (Jvm.Cond.laysFinal "WindowCache$Log" "WindowCache$Log" "whys" "[I") ∈ lw_tbl := List.mem_append_right _ (List.mem_of_getElem? (i := 87) (by decide +kernel))
theorem q89 : (Jvm.Cond.lays "WindowCache$Log" "WindowCache$Log" "size" "I") ∈ lw_tbl := List.mem_append_right _ (List.mem_of_getElem? (i := 89) (by decide +kernel))
theorem q92 : (Jvm.Cond.methodLink "WindowCache" (49 : Nat) ({ cls := "java/lang/Math", name := "min", desc := "(II)I" } : Jvm.MethodName)) ∈ lw_tbl := List.mem_append_right _ (List.mem_of_getElem? (i := 92) (by decide +kernel))
theorem q93 : (Jvm.Cond.static ({ cls := "java/lang/Math", name := "min", desc := "(II)I" } : Jvm.MethodName)) ∈ lw_tbl := List.mem_append_right _ (List.mem_of_getElem? (i := 93) (by decide +kernel))
theorem q94 : (Jvm.Cond.code ({ cls := "java/lang/Math", name := "min", desc := "(II)I" } : Jvm.MethodName) prog_18_method_69_code (2 : Nat) (Option.some Jvm.ClassFile.FieldType.int)) ∈ lw_tbl := List.mem_append_right _ (List.mem_of_getElem? (i := 94) (by decide +kernel))
theorem q95 : (Jvm.Cond.methodLink "WindowCache" (55 : Nat) ({ cls := "java/lang/Math", name := "max", desc := "(II)I" } : Jvm.MethodName)) ∈ lw_tbl := List.mem_append_right _ (List.mem_of_getElem? (i := 95) (by decide +kernel))
theorem q96 : (Jvm.Cond.static ({ cls := "java/lang/Math", name := "max", desc := "(II)I" } : Jvm.MethodName)) ∈ lw_tbl := List.mem_append_right _ (List.mem_of_getElem? (i := 96) (by decide +kernel))
theorem q97 : (Jvm.Cond.code ({ cls := "java/lang/Math", name := "max", desc := "(II)I" } : Jvm.MethodName) prog_18_method_65_code (2 : Nat) (Option.some Jvm.ClassFile.FieldType.int)) ∈ lw_tbl := List.mem_append_right _ (List.mem_of_getElem? (i := 97) (by decide +kernel))
theorem q98 : (Jvm.Cond.classLink "WindowCache" (58 : Nat) "WindowCache$Lives") ∈ lw_tbl := List.mem_append_right _ (List.mem_of_getElem? (i := 98) (by decide +kernel))
theorem q99 : (Jvm.Cond.instantiable "WindowCache$Lives" (3 : Nat)) ∈ lw_tbl := List.mem_append_right _ (List.mem_of_getElem? (i := 99) (by decide +kernel))
theorem q100 : (Jvm.Cond.methodLink "WindowCache" (60 : Nat) ({ cls := "WindowCache$Lives", name := "<init>", desc := "(II)V" } : Jvm.MethodName)) ∈ lw_tbl := List.mem_append_right _ (List.mem_of_getElem? (i := 100) (by decide +kernel))
theorem q101 : (Jvm.Cond.instanceMethod ({ cls := "WindowCache$Lives", name := "<init>", desc := "(II)V" } : Jvm.MethodName)) ∈ lw_tbl := List.mem_append_right _ (List.mem_of_getElem? (i := 101) (by decide +kernel))
theorem q102 : (Jvm.Cond.code ({ cls := "WindowCache$Lives", name := "<init>", desc := "(II)V" } : Jvm.MethodName) prog_5_method_1_code (3 : Nat) (Option.none : Option Jvm.ClassFile.FieldType)) ∈ lw_tbl := List.mem_append_right _ (List.mem_of_getElem? (i := 102) (by decide +kernel))
theorem q103 : (Jvm.Cond.methodLink "WindowCache$Lives" (3 : Nat) ({ cls := "java/lang/Object", name := "<init>", desc := "()V" } : Jvm.MethodName)) ∈ lw_tbl := List.mem_append_right _ (List.mem_of_getElem? (i := 103) (by decide +kernel))
theorem q104 : (Jvm.Cond.fieldLink "WindowCache$Lives" (9 : Nat) "WindowCache$Lives" "write" "I") ∈ lw_tbl := List.mem_append_right _ (List.mem_of_getElem? (i := 104) (by decide +kernel))
theorem q105 : (Jvm.Cond.fieldLink "WindowCache$Lives" (15 : Nat) "WindowCache$Lives" "touch" "I") ∈ lw_tbl := List.mem_append_right _ (List.mem_of_getElem? (i := 105) (by decide +kernel))
theorem q106 : (Jvm.Cond.fieldLink "WindowCache$Lives" (18 : Nat) "WindowCache$Lives" "time" "J") ∈ lw_tbl := List.mem_append_right _ (List.mem_of_getElem? (i := 106) (by decide +kernel))
theorem q107 : (Jvm.Cond.fieldLink "WindowCache" (145 : Nat) "WindowCache$Lives" "time" "J") ∈ lw_tbl := List.mem_append_right _ (List.mem_of_getElem? (i := 107) (by decide +kernel))
theorem q108 : (Jvm.Cond.laysFinal "WindowCache$Lives" "WindowCache$Lives" "write" "I") ∈ lw_tbl := List.mem_append_right _ (List.mem_of_getElem? (i := 108) (by decide +kernel))
theorem q110 : (Jvm.Cond.laysFinal "WindowCache$Lives" "WindowCache$Lives" "touch" "I") ∈ lw_tbl := List.mem_append_right _ (List.mem_of_getElem? (i := 110) (by decide +kernel))
theorem q112 : (Jvm.Cond.lays "WindowCache$Lives" "WindowCache$Lives" "time" "J") ∈ lw_tbl := List.mem_append_right _ (List.mem_of_getElem? (i := 112) (by decide +kernel))
theorem q115 : (Jvm.Cond.classLink "WindowCache" (67 : Nat) "WindowCache$Counts") ∈ lw_tbl := List.mem_append_right _ (List.mem_of_getElem? (i := 115) (by decide +kernel))
theorem q116 : (Jvm.Cond.instantiable "WindowCache$Counts" (3 : Nat)) ∈ lw_tbl := List.mem_append_right _ (List.mem_of_getElem? (i := 116) (by decide +kernel))
theorem q117 : (Jvm.Cond.methodLink "WindowCache" (69 : Nat) ({ cls := "WindowCache$Counts", name := "<init>", desc := "(I)V" } : Jvm.MethodName)) ∈ lw_tbl := List.mem_append_right _ (List.mem_of_getElem? (i := 117) (by decide +kernel))
theorem q118 : (Jvm.Cond.instanceMethod ({ cls := "WindowCache$Counts", name := "<init>", desc := "(I)V" } : Jvm.MethodName)) ∈ lw_tbl := List.mem_append_right _ (List.mem_of_getElem? (i := 118) (by decide +kernel))
theorem q119 : (Jvm.Cond.code ({ cls := "WindowCache$Counts", name := "<init>", desc := "(I)V" } : Jvm.MethodName) prog_3_method_1_code (3 : Nat) (Option.none : Option Jvm.ClassFile.FieldType)) ∈ lw_tbl := List.mem_append_right _ (List.mem_of_getElem? (i := 119) (by decide +kernel))
theorem q120 : (Jvm.Cond.methodLink "WindowCache$Counts" (1 : Nat) ({ cls := "java/lang/Object", name := "<init>", desc := "()V" } : Jvm.MethodName)) ∈ lw_tbl := List.mem_append_right _ (List.mem_of_getElem? (i := 120) (by decide +kernel))
theorem q121 : (Jvm.Cond.fieldLink "WindowCache$Counts" (9 : Nat) "WindowCache$Counts" "size" "I") ∈ lw_tbl := List.mem_append_right _ (List.mem_of_getElem? (i := 121) (by decide +kernel))
theorem q122 : (Jvm.Cond.fieldLink "WindowCache$Counts" (13 : Nat) "WindowCache$Counts" "words" "[I") ∈ lw_tbl := List.mem_append_right _ (List.mem_of_getElem? (i := 122) (by decide +kernel))
theorem q123 : (Jvm.Cond.fieldLink "WindowCache$Counts" (21 : Nat) "WindowCache$Counts" "added" "I") ∈ lw_tbl := List.mem_append_right _ (List.mem_of_getElem? (i := 123) (by decide +kernel))
theorem q124 : (Jvm.Cond.fieldLink "WindowCache" (194 : Nat) "WindowCache$Counts" "added" "I") ∈ lw_tbl := List.mem_append_right _ (List.mem_of_getElem? (i := 124) (by decide +kernel))
theorem q125 : (Jvm.Cond.laysFinal "WindowCache$Counts" "WindowCache$Counts" "size" "I") ∈ lw_tbl := List.mem_append_right _ (List.mem_of_getElem? (i := 125) (by decide +kernel))
theorem q127 : (Jvm.Cond.laysFinal "WindowCache$Counts" "WindowCache$Counts" "words" "[I") ∈ lw_tbl := List.mem_append_right _ (List.mem_of_getElem? (i := 127) (by decide +kernel))
theorem q129 : (Jvm.Cond.lays "WindowCache$Counts" "WindowCache$Counts" "added" "I") ∈ lw_tbl := List.mem_append_right _ (List.mem_of_getElem? (i := 129) (by decide +kernel))
theorem q132 : (Jvm.Cond.classLink "WindowCache" (76 : Nat) "WindowCache$Rooms") ∈ lw_tbl := List.mem_append_right _ (List.mem_of_getElem? (i := 132) (by decide +kernel))
theorem q133 : (Jvm.Cond.instantiable "WindowCache$Rooms" (5 : Nat)) ∈ lw_tbl := List.mem_append_right _ (List.mem_of_getElem? (i := 133) (by decide +kernel))
theorem q134 : (Jvm.Cond.methodLink "WindowCache" (78 : Nat) ({ cls := "WindowCache$Rooms", name := "<init>", desc := "(I)V" } : Jvm.MethodName)) ∈ lw_tbl := List.mem_append_right _ (List.mem_of_getElem? (i := 134) (by decide +kernel))
theorem q135 : (Jvm.Cond.instanceMethod ({ cls := "WindowCache$Rooms", name := "<init>", desc := "(I)V" } : Jvm.MethodName)) ∈ lw_tbl := List.mem_append_right _ (List.mem_of_getElem? (i := 135) (by decide +kernel))
theorem q136 : (Jvm.Cond.code ({ cls := "WindowCache$Rooms", name := "<init>", desc := "(I)V" } : Jvm.MethodName) prog_9_method_1_code (2 : Nat) (Option.none : Option Jvm.ClassFile.FieldType)) ∈ lw_tbl := List.mem_append_right _ (List.mem_of_getElem? (i := 136) (by decide +kernel))
theorem q137 : (Jvm.Cond.methodLink "WindowCache$Rooms" (1 : Nat) ({ cls := "java/lang/Object", name := "<init>", desc := "()V" } : Jvm.MethodName)) ∈ lw_tbl := List.mem_append_right _ (List.mem_of_getElem? (i := 137) (by decide +kernel))
theorem q138 : (Jvm.Cond.classLink "WindowCache$Rooms" (7 : Nat) "WindowCache$Room") ∈ lw_tbl := List.mem_append_right _ (List.mem_of_getElem? (i := 138) (by decide +kernel))
theorem q139 : (Jvm.Cond.instantiable "WindowCache$Room" (4 : Nat)) ∈ lw_tbl := List.mem_append_right _ (List.mem_of_getElem? (i := 139) (by decide +kernel))
theorem q140 : (Jvm.Cond.methodLinkNest "WindowCache$Rooms" (9 : Nat) ({ cls := "WindowCache$Room", name := "<init>", desc := "()V" } : Jvm.MethodName) "WindowCache") ∈ lw_tbl := List.mem_append_right _ (List.mem_of_getElem? (i := 140) (by decide +kernel))
theorem q141 : (Jvm.Cond.instanceMethod ({ cls := "WindowCache$Room", name := "<init>", desc := "()V" } : Jvm.MethodName)) ∈ lw_tbl := List.mem_append_right _ (List.mem_of_getElem? (i := 141) (by decide +kernel))
theorem q142 : (Jvm.Cond.code ({ cls := "WindowCache$Room", name := "<init>", desc := "()V" } : Jvm.MethodName) prog_8_method_1_code (1 : Nat) (Option.none : Option Jvm.ClassFile.FieldType)) ∈ lw_tbl := List.mem_append_right _ (List.mem_of_getElem? (i := 142) (by decide +kernel))
theorem q143 : (Jvm.Cond.methodLink "WindowCache$Room" (3 : Nat) ({ cls := "java/lang/Object", name := "<init>", desc := "()V" } : Jvm.MethodName)) ∈ lw_tbl := List.mem_append_right _ (List.mem_of_getElem? (i := 143) (by decide +kernel))
theorem q144 : (Jvm.Cond.fieldLink "WindowCache$Room" (27 : Nat) "WindowCache$Room" "earliest" "LWindowCache$Entry;") ∈ lw_tbl := List.mem_append_right _ (List.mem_of_getElem? (i := 144) (by decide +kernel))
theorem q145 : (Jvm.Cond.fieldLink "WindowCache$Rooms" (55 : Nat) "WindowCache$Room" "earliest" "LWindowCache$Entry;") ∈ lw_tbl := List.mem_append_right _ (List.mem_of_getElem? (i := 145) (by decide +kernel))
theorem q146 : (Jvm.Cond.fieldLink "WindowCache$Room" (15 : Nat) "WindowCache$Room" "latest" "LWindowCache$Entry;") ∈ lw_tbl := List.mem_append_right _ (List.mem_of_getElem? (i := 146) (by decide +kernel))
theorem q147 : (Jvm.Cond.fieldLink "WindowCache$Rooms" (34 : Nat) "WindowCache$Room" "weight" "I") ∈ lw_tbl := List.mem_append_right _ (List.mem_of_getElem? (i := 147) (by decide +kernel))
theorem q148 : (Jvm.Cond.fieldLink "WindowCache$Room" (30 : Nat) "WindowCache$Room" "weight" "I") ∈ lw_tbl := List.mem_append_right _ (List.mem_of_getElem? (i := 148) (by decide +kernel))
theorem q149 : (Jvm.Cond.fieldLink "WindowCache" (165 : Nat) "WindowCache$Room" "weight" "I") ∈ lw_tbl := List.mem_append_right _ (List.mem_of_getElem? (i := 149) (by decide +kernel))
theorem q150 : (Jvm.Cond.fieldLink "WindowCache$Room" (35 : Nat) "WindowCache$Room" "size" "I") ∈ lw_tbl := List.mem_append_right _ (List.mem_of_getElem? (i := 150) (by decide +kernel))
theorem q151 : (Jvm.Cond.fieldLink "WindowCache$Rooms" (37 : Nat) "WindowCache$Room" "size" "I") ∈ lw_tbl := List.mem_append_right _ (List.mem_of_getElem? (i := 151) (by decide +kernel))
theorem q152 : (Jvm.Cond.lays "WindowCache$Room" "WindowCache$Room" "earliest" "LWindowCache$Entry;") ∈ lw_tbl := List.mem_append_right _ (List.mem_of_getElem? (i := 152) (by decide +kernel))
theorem q154 : (Jvm.Cond.lays "WindowCache$Room" "WindowCache$Room" "latest" "LWindowCache$Entry;") ∈ lw_tbl := List.mem_append_right _ (List.mem_of_getElem? (i := 154) (by decide +kernel))
theorem q156 : (Jvm.Cond.lays "WindowCache$Room" "WindowCache$Room" "weight" "I") ∈ lw_tbl := List.mem_append_right _ (List.mem_of_getElem? (i := 156) (by decide +kernel))
theorem q158 : (Jvm.Cond.lays "WindowCache$Room" "WindowCache$Room" "size" "I") ∈ lw_tbl := List.mem_append_right _ (List.mem_of_getElem? (i := 158) (by decide +kernel))
theorem q161 : (Jvm.Cond.methodLink "WindowCache$Rooms" (26 : Nat) ({ cls := "java/lang/Math", name := "max", desc := "(II)I" } : Jvm.MethodName)) ∈ lw_tbl := List.mem_append_right _ (List.mem_of_getElem? (i := 161) (by decide +kernel))
theorem q162 : (Jvm.Cond.fieldLink "WindowCache$Rooms" (22 : Nat) "WindowCache$Rooms" "max" "I") ∈ lw_tbl := List.mem_append_right _ (List.mem_of_getElem? (i := 162) (by decide +kernel))
theorem q163 : (Jvm.Cond.fieldLink "WindowCache" (293 : Nat) "WindowCache$Rooms" "max" "I") ∈ lw_tbl := List.mem_append_right _ (List.mem_of_getElem? (i := 163) (by decide +kernel))
theorem q164 : (Jvm.Cond.fieldLink "WindowCache$Rooms" (10 : Nat) "WindowCache$Rooms" "window" "LWindowCache$Room;") ∈ lw_tbl := List.mem_append_right _ (List.mem_of_getElem? (i := 164) (by decide +kernel))
theorem q165 : (Jvm.Cond.fieldLink "WindowCache" (161 : Nat) "WindowCache$Rooms" "window" "LWindowCache$Room;") ∈ lw_tbl := List.mem_append_right _ (List.mem_of_getElem? (i := 165) (by decide +kernel))
theorem q166 : (Jvm.Cond.fieldLink "WindowCache$Rooms" (16 : Nat) "WindowCache$Rooms" "probation" "LWindowCache$Room;") ∈ lw_tbl := List.mem_append_right _ (List.mem_of_getElem? (i := 166) (by decide +kernel))
theorem q167 : (Jvm.Cond.fieldLink "WindowCache" (169 : Nat) "WindowCache$Rooms" "probation" "LWindowCache$Room;") ∈ lw_tbl := List.mem_append_right _ (List.mem_of_getElem? (i := 167) (by decide +kernel))
theorem q168 : (Jvm.Cond.fieldLink "WindowCache$Rooms" (19 : Nat) "WindowCache$Rooms" "shielded" "LWindowCache$Room;") ∈ lw_tbl := List.mem_append_right _ (List.mem_of_getElem? (i := 168) (by decide +kernel))
theorem q169 : (Jvm.Cond.fieldLink "WindowCache" (172 : Nat) "WindowCache$Rooms" "shielded" "LWindowCache$Room;") ∈ lw_tbl := List.mem_append_right _ (List.mem_of_getElem? (i := 169) (by decide +kernel))
theorem q170 : (Jvm.Cond.fieldLink "WindowCache$Rooms" (31 : Nat) "WindowCache$Rooms" "windowLimit" "I") ∈ lw_tbl := List.mem_append_right _ (List.mem_of_getElem? (i := 170) (by decide +kernel))
theorem q171 : (Jvm.Cond.fieldLink "WindowCache" (175 : Nat) "WindowCache$Rooms" "windowLimit" "I") ∈ lw_tbl := List.mem_append_right _ (List.mem_of_getElem? (i := 171) (by decide +kernel))
theorem q172 : (Jvm.Cond.laysFinal "WindowCache$Rooms" "WindowCache$Rooms" "max" "I") ∈ lw_tbl := List.mem_append_right _ (List.mem_of_getElem? (i := 172) (by decide +kernel))
theorem q174 : (Jvm.Cond.laysFinal "WindowCache$Rooms" "WindowCache$Rooms" "window" "LWindowCache$Room;") ∈ lw_tbl := List.mem_append_right _ (List.mem_of_getElem? (i := 174) (by decide +kernel))
theorem q176 : (Jvm.Cond.laysFinal "WindowCache$Rooms" "WindowCache$Rooms" "probation" "LWindowCache$Room;") ∈ lw_tbl := List.mem_append_right _ (List.mem_of_getElem? (i := 176) (by decide +kernel))
theorem q178 : (Jvm.Cond.laysFinal "WindowCache$Rooms" "WindowCache$Rooms" "shielded" "LWindowCache$Room;") ∈ lw_tbl := List.mem_append_right _ (List.mem_of_getElem? (i := 178) (by decide +kernel))
theorem q180 : (Jvm.Cond.lays "WindowCache$Rooms" "WindowCache$Rooms" "windowLimit" "I") ∈ lw_tbl := List.mem_append_right _ (List.mem_of_getElem? (i := 180) (by decide +kernel))
theorem q183 : (Jvm.Cond.classLink "WindowCache" (83 : Nat) "WindowCache$Climb") ∈ lw_tbl := List.mem_append_right _ (List.mem_of_getElem? (i := 183) (by decide +kernel))
theorem q184 : (Jvm.Cond.instantiable "WindowCache$Climb" (9 : Nat)) ∈ lw_tbl := List.mem_append_right _ (List.mem_of_getElem? (i := 184) (by decide +kernel))
theorem q185 : (Jvm.Cond.methodLink "WindowCache" (85 : Nat) ({ cls := "WindowCache$Climb", name := "<init>", desc := "(I)V" } : Jvm.MethodName)) ∈ lw_tbl := List.mem_append_right _ (List.mem_of_getElem? (i := 185) (by decide +kernel))
theorem q186 : (Jvm.Cond.instanceMethod ({ cls := "WindowCache$Climb", name := "<init>", desc := "(I)V" } : Jvm.MethodName)) ∈ lw_tbl := List.mem_append_right _ (List.mem_of_getElem? (i := 186) (by decide +kernel))
theorem q187 : (Jvm.Cond.code ({ cls := "WindowCache$Climb", name := "<init>", desc := "(I)V" } : Jvm.MethodName) prog_2_method_1_code (2 : Nat) (Option.none : Option Jvm.ClassFile.FieldType)) ∈ lw_tbl := List.mem_append_right _ (List.mem_of_getElem? (i := 187) (by decide +kernel))
theorem q188 : (Jvm.Cond.methodLink "WindowCache$Climb" (1 : Nat) ({ cls := "java/lang/Object", name := "<init>", desc := "()V" } : Jvm.MethodName)) ∈ lw_tbl := List.mem_append_right _ (List.mem_of_getElem? (i := 188) (by decide +kernel))
theorem q189 : (Jvm.Cond.methodLink "WindowCache$Climb" (17 : Nat) ({ cls := "java/lang/Math", name := "max", desc := "(II)I" } : Jvm.MethodName)) ∈ lw_tbl := List.mem_append_right _ (List.mem_of_getElem? (i := 189) (by decide +kernel))
theorem q190 : (Jvm.Cond.fieldLink "WindowCache$Climb" (13 : Nat) "WindowCache$Climb" "askedUntilDue" "I") ∈ lw_tbl := List.mem_append_right _ (List.mem_of_getElem? (i := 190) (by decide +kernel))
theorem q191 : (Jvm.Cond.fieldLink "WindowCache$Climb" (23 : Nat) "WindowCache$Climb" "firstStep" "I") ∈ lw_tbl := List.mem_append_right _ (List.mem_of_getElem? (i := 191) (by decide +kernel))
theorem q192 : (Jvm.Cond.fieldLink "WindowCache$Climb" (29 : Nat) "WindowCache$Climb" "hits" "I") ∈ lw_tbl := List.mem_append_right _ (List.mem_of_getElem? (i := 192) (by decide +kernel))
theorem q193 : (Jvm.Cond.fieldLink "WindowCache" (178 : Nat) "WindowCache$Climb" "hits" "I") ∈ lw_tbl := List.mem_append_right _ (List.mem_of_getElem? (i := 193) (by decide +kernel))
theorem q194 : (Jvm.Cond.fieldLink "WindowCache$Climb" (32 : Nat) "WindowCache$Climb" "misses" "I") ∈ lw_tbl := List.mem_append_right _ (List.mem_of_getElem? (i := 194) (by decide +kernel))
theorem q195 : (Jvm.Cond.fieldLink "WindowCache" (181 : Nat) "WindowCache$Climb" "misses" "I") ∈ lw_tbl := List.mem_append_right _ (List.mem_of_getElem? (i := 195) (by decide +kernel))
theorem q196 : (Jvm.Cond.fieldLink "WindowCache$Climb" (38 : Nat) "WindowCache$Climb" "hitsBefore" "I") ∈ lw_tbl := List.mem_append_right _ (List.mem_of_getElem? (i := 196) (by decide +kernel))
theorem q197 : (Jvm.Cond.fieldLink "WindowCache$Climb" (35 : Nat) "WindowCache$Climb" "askedBefore" "I") ∈ lw_tbl := List.mem_append_right _ (List.mem_of_getElem? (i := 197) (by decide +kernel))
theorem q198 : (Jvm.Cond.fieldLink "WindowCache$Climb" (41 : Nat) "WindowCache$Climb" "rate" "I") ∈ lw_tbl := List.mem_append_right _ (List.mem_of_getElem? (i := 198) (by decide +kernel))
theorem q199 : (Jvm.Cond.fieldLink "WindowCache$Climb" (26 : Nat) "WindowCache$Climb" "step" "I") ∈ lw_tbl := List.mem_append_right _ (List.mem_of_getElem? (i := 199) (by decide +kernel))
theorem q200 : (Jvm.Cond.fieldLink "WindowCache$Climb" (7 : Nat) "WindowCache$Climb" "up" "Z") ∈ lw_tbl := List.mem_append_right _ (List.mem_of_getElem? (i := 200) (by decide +kernel))
theorem q201 : (Jvm.Cond.fieldLink "WindowCache" (318 : Nat) "WindowCache$Climb" "up" "Z") ∈ lw_tbl := List.mem_append_right _ (List.mem_of_getElem? (i := 201) (by decide +kernel))
theorem q202 : (Jvm.Cond.laysFinal "WindowCache$Climb" "WindowCache$Climb" "askedUntilDue" "I") ∈ lw_tbl := List.mem_append_right _ (List.mem_of_getElem? (i := 202) (by decide +kernel))
theorem q204 : (Jvm.Cond.laysFinal "WindowCache$Climb" "WindowCache$Climb" "firstStep" "I") ∈ lw_tbl := List.mem_append_right _ (List.mem_of_getElem? (i := 204) (by decide +kernel))
theorem q206 : (Jvm.Cond.lays "WindowCache$Climb" "WindowCache$Climb" "hits" "I") ∈ lw_tbl := List.mem_append_right _ (List.mem_of_getElem? (i := 206) (by decide +kernel))
theorem q208 : (Jvm.Cond.lays "WindowCache$Climb" "WindowCache$Climb" "misses" "I") ∈ lw_tbl := List.mem_append_right _ (List.mem_of_getElem? (i := 208) (by decide +kernel))
theorem q210 : (Jvm.Cond.lays "WindowCache$Climb" "WindowCache$Climb" "hitsBefore" "I") ∈ lw_tbl := List.mem_append_right _ (List.mem_of_getElem? (i := 210) (by decide +kernel))
theorem q212 : (Jvm.Cond.lays "WindowCache$Climb" "WindowCache$Climb" "askedBefore" "I") ∈ lw_tbl := List.mem_append_right _ (List.mem_of_getElem? (i := 212) (by decide +kernel))
theorem q214 : (Jvm.Cond.lays "WindowCache$Climb" "WindowCache$Climb" "rate" "I") ∈ lw_tbl := List.mem_append_right _ (List.mem_of_getElem? (i := 214) (by decide +kernel))
theorem q216 : (Jvm.Cond.lays "WindowCache$Climb" "WindowCache$Climb" "step" "I") ∈ lw_tbl := List.mem_append_right _ (List.mem_of_getElem? (i := 216) (by decide +kernel))
theorem q218 : (Jvm.Cond.lays "WindowCache$Climb" "WindowCache$Climb" "up" "Z") ∈ lw_tbl := List.mem_append_right _ (List.mem_of_getElem? (i := 218) (by decide +kernel))
theorem q221 : (Jvm.Cond.fieldLink "WindowCache" (11 : Nat) "WindowCache" "map" "[LWindowCache$Entry;") ∈ lw_tbl := List.mem_append_right _ (List.mem_of_getElem? (i := 221) (by decide +kernel))
theorem q222 : (Jvm.Cond.fieldLink "WindowCache" (17 : Nat) "WindowCache" "ways" "[LWindowCache$Way;") ∈ lw_tbl := List.mem_append_right _ (List.mem_of_getElem? (i := 222) (by decide +kernel))
theorem q223 : (Jvm.Cond.fieldLink "WindowCache" (24 : Nat) "WindowCache" "evenNotes" "LWindowCache$Notes;") ∈ lw_tbl := List.mem_append_right _ (List.mem_of_getElem? (i := 223) (by decide +kernel))
theorem q224 : (Jvm.Cond.fieldLink "WindowCache" (28 : Nat) "WindowCache" "oddNotes" "LWindowCache$Notes;") ∈ lw_tbl := List.mem_append_right _ (List.mem_of_getElem? (i := 224) (by decide +kernel))
theorem q225 : (Jvm.Cond.fieldLink "WindowCache" (34 : Nat) "WindowCache" "tasks" "LWindowCache$Tasks;") ∈ lw_tbl := List.mem_append_right _ (List.mem_of_getElem? (i := 225) (by decide +kernel))
theorem q226 : (Jvm.Cond.fieldLink "WindowCache" (41 : Nat) "WindowCache" "log" "LWindowCache$Log;") ∈ lw_tbl := List.mem_append_right _ (List.mem_of_getElem? (i := 226) (by decide +kernel))
theorem q227 : (Jvm.Cond.fieldLink "WindowCache" (63 : Nat) "WindowCache" "lives" "LWindowCache$Lives;") ∈ lw_tbl := List.mem_append_right _ (List.mem_of_getElem? (i := 227) (by decide +kernel))
theorem q228 : (Jvm.Cond.fieldLink "WindowCache" (72 : Nat) "WindowCache" "counts" "LWindowCache$Counts;") ∈ lw_tbl := List.mem_append_right _ (List.mem_of_getElem? (i := 228) (by decide +kernel))
theorem q229 : (Jvm.Cond.fieldLink "WindowCache" (79 : Nat) "WindowCache" "rooms" "LWindowCache$Rooms;") ∈ lw_tbl := List.mem_append_right _ (List.mem_of_getElem? (i := 229) (by decide +kernel))
theorem q230 : (Jvm.Cond.fieldLink "WindowCache" (86 : Nat) "WindowCache" "climb" "LWindowCache$Climb;") ∈ lw_tbl := List.mem_append_right _ (List.mem_of_getElem? (i := 230) (by decide +kernel))
theorem q231 : (Jvm.Cond.fieldLink "WindowCache" (45 : Nat) "WindowCache" "draw" "I") ∈ lw_tbl := List.mem_append_right _ (List.mem_of_getElem? (i := 231) (by decide +kernel))
theorem q232 : (Jvm.Cond.fieldLink "WindowCache" (135 : Nat) "WindowCache" "finished" "I") ∈ lw_tbl := List.mem_append_right _ (List.mem_of_getElem? (i := 232) (by decide +kernel))
theorem q233 : (Jvm.Cond.fieldLink "WindowCache" (142 : Nat) "WindowCache" "failed" "I") ∈ lw_tbl := List.mem_append_right _ (List.mem_of_getElem? (i := 233) (by decide +kernel))
theorem q234 : (Jvm.Cond.fieldLink "WindowCache" (184 : Nat) "WindowCache" "evicted" "I") ∈ lw_tbl := List.mem_append_right _ (List.mem_of_getElem? (i := 234) (by decide +kernel))
theorem q235 : (Jvm.Cond.fieldLink "WindowCache" (187 : Nat) "WindowCache" "evictedWeight" "I") ∈ lw_tbl := List.mem_append_right _ (List.mem_of_getElem? (i := 235) (by decide +kernel))
theorem q236 : (Jvm.Cond.laysFinal "WindowCache" "WindowCache" "map" "[LWindowCache$Entry;") ∈ lw_tbl := List.mem_append_right _ (List.mem_of_getElem? (i := 236) (by decide +kernel))
theorem q238 : (Jvm.Cond.laysFinal "WindowCache" "WindowCache" "ways" "[LWindowCache$Way;") ∈ lw_tbl := List.mem_append_right _ (List.mem_of_getElem? (i := 238) (by decide +kernel))
theorem q240 : (Jvm.Cond.laysFinal "WindowCache" "WindowCache" "evenNotes" "LWindowCache$Notes;") ∈ lw_tbl := List.mem_append_right _ (List.mem_of_getElem? (i := 240) (by decide +kernel))
theorem q242 : (Jvm.Cond.laysFinal "WindowCache" "WindowCache" "oddNotes" "LWindowCache$Notes;") ∈ lw_tbl := List.mem_append_right _ (List.mem_of_getElem? (i := 242) (by decide +kernel))
theorem q244 : (Jvm.Cond.laysFinal "WindowCache" "WindowCache" "tasks" "LWindowCache$Tasks;") ∈ lw_tbl := List.mem_append_right _ (List.mem_of_getElem? (i := 244) (by decide +kernel))
theorem q246 : (Jvm.Cond.laysFinal "WindowCache" "WindowCache" "log" "LWindowCache$Log;") ∈ lw_tbl := List.mem_append_right _ (List.mem_of_getElem? (i := 246) (by decide +kernel))
theorem q248 : (Jvm.Cond.laysFinal "WindowCache" "WindowCache" "lives" "LWindowCache$Lives;") ∈ lw_tbl := List.mem_append_right _ (List.mem_of_getElem? (i := 248) (by decide +kernel))
theorem q250 : (Jvm.Cond.laysFinal "WindowCache" "WindowCache" "counts" "LWindowCache$Counts;") ∈ lw_tbl := List.mem_append_right _ (List.mem_of_getElem? (i := 250) (by decide +kernel))
theorem q252 : (Jvm.Cond.laysFinal "WindowCache" "WindowCache" "rooms" "LWindowCache$Rooms;") ∈ lw_tbl := List.mem_append_right _ (List.mem_of_getElem? (i := 252) (by decide +kernel))
theorem q254 : (Jvm.Cond.laysFinal "WindowCache" "WindowCache" "climb" "LWindowCache$Climb;") ∈ lw_tbl := List.mem_append_right _ (List.mem_of_getElem? (i := 254) (by decide +kernel))
theorem q256 : (Jvm.Cond.lays "WindowCache" "WindowCache" "draw" "I") ∈ lw_tbl := List.mem_append_right _ (List.mem_of_getElem? (i := 256) (by decide +kernel))
theorem q258 : (Jvm.Cond.lays "WindowCache" "WindowCache" "finished" "I") ∈ lw_tbl := List.mem_append_right _ (List.mem_of_getElem? (i := 258) (by decide +kernel))
theorem q260 : (Jvm.Cond.lays "WindowCache" "WindowCache" "failed" "I") ∈ lw_tbl := List.mem_append_right _ (List.mem_of_getElem? (i := 260) (by decide +kernel))
theorem q262 : (Jvm.Cond.lays "WindowCache" "WindowCache" "evicted" "I") ∈ lw_tbl := List.mem_append_right _ (List.mem_of_getElem? (i := 262) (by decide +kernel))
theorem q264 : (Jvm.Cond.lays "WindowCache" "WindowCache" "evictedWeight" "I") ∈ lw_tbl := List.mem_append_right _ (List.mem_of_getElem? (i := 264) (by decide +kernel))
theorem q267 : (Jvm.Cond.methodLink "WindowCacheLaw" (41 : Nat) ({ cls := "WindowCache", name := "get", desc := "(I)I" } : Jvm.MethodName)) ∈ lw_tbl := List.mem_append_right _ (List.mem_of_getElem? (i := 267) (by decide +kernel))
theorem q268 : (Jvm.Cond.instanceMethod ({ cls := "WindowCache", name := "get", desc := "(I)I" } : Jvm.MethodName)) ∈ lw_tbl := List.mem_append_right _ (List.mem_of_getElem? (i := 268) (by decide +kernel))
theorem q269 : (Jvm.Cond.selects "WindowCache" ({ cls := "WindowCache", name := "get", desc := "(I)I" } : Jvm.MethodName) ({ cls := "WindowCache", name := "get", desc := "(I)I" } : Jvm.MethodName)) ∈ lw_tbl := List.mem_append_right _ (List.mem_of_getElem? (i := 269) (by decide +kernel))
theorem q270 : (Jvm.Cond.code ({ cls := "WindowCache", name := "get", desc := "(I)I" } : Jvm.MethodName) prog_1_method_2_code (2 : Nat) (Option.some Jvm.ClassFile.FieldType.int)) ∈ lw_tbl := List.mem_append_right _ (List.mem_of_getElem? (i := 270) (by decide +kernel))
theorem q271 : (Jvm.Cond.methodLink "WindowCache" (90 : Nat) ({ cls := "WindowCache", name := "isKey", desc := "(I)Z" } : Jvm.MethodName)) ∈ lw_tbl := List.mem_append_right _ (List.mem_of_getElem? (i := 271) (by decide +kernel))
theorem q272 : (Jvm.Cond.static ({ cls := "WindowCache", name := "isKey", desc := "(I)Z" } : Jvm.MethodName)) ∈ lw_tbl := List.mem_append_right _ (List.mem_of_getElem? (i := 272) (by decide +kernel))
theorem q273 : (Jvm.Cond.code ({ cls := "WindowCache", name := "isKey", desc := "(I)Z" } : Jvm.MethodName) prog_1_method_16_code (1 : Nat) (Option.some Jvm.ClassFile.FieldType.boolean)) ∈ lw_tbl := List.mem_append_right _ (List.mem_of_getElem? (i := 273) (by decide +kernel))
theorem q274 : (Jvm.Cond.methodLink "WindowCache" (94 : Nat) ({ cls := "WindowCache", name := "ask", desc := "(I)I" } : Jvm.MethodName)) ∈ lw_tbl := List.mem_append_right _ (List.mem_of_getElem? (i := 274) (by decide +kernel))
theorem q276 : (Jvm.Cond.instanceMethod ({ cls := "WindowCache", name := "ask", desc := "(I)I" } : Jvm.MethodName)) ∈ lw_tbl := List.mem_append_right _ (List.mem_of_getElem? (i := 276) (by decide +kernel))
theorem q277 : (Jvm.Cond.code ({ cls := "WindowCache", name := "ask", desc := "(I)I" } : Jvm.MethodName) prog_1_method_19_code (4 : Nat) (Option.some Jvm.ClassFile.FieldType.int)) ∈ lw_tbl := List.mem_append_right _ (List.mem_of_getElem? (i := 277) (by decide +kernel))
theorem q278 : (Jvm.Cond.methodLink "WindowCache" (212 : Nat) ({ cls := "WindowCache$Lives", name := "isOver", desc := "(LWindowCache$Entry;)Z" } : Jvm.MethodName)) ∈ lw_tbl := List.mem_append_right _ (List.mem_of_getElem? (i := 278) (by decide +kernel))
theorem q279 : (Jvm.Cond.instanceMethod ({ cls := "WindowCache$Lives", name := "isOver", desc := "(LWindowCache$Entry;)Z" } : Jvm.MethodName)) ∈ lw_tbl := List.mem_append_right _ (List.mem_of_getElem? (i := 279) (by decide +kernel))
theorem q280 : (Jvm.Cond.selects "WindowCache$Lives" ({ cls := "WindowCache$Lives", name := "isOver", desc := "(LWindowCache$Entry;)Z" } : Jvm.MethodName) ({ cls := "WindowCache$Lives", name := "isOver", desc := "(LWindowCache$Entry;)Z" } : Jvm.MethodName)) ∈ lw_tbl := List.mem_append_right _ (List.mem_of_getElem? (i := 280) (by decide +kernel))
theorem q281 : (Jvm.Cond.code ({ cls := "WindowCache$Lives", name := "isOver", desc := "(LWindowCache$Entry;)Z" } : Jvm.MethodName) prog_5_method_4_code (2 : Nat) (Option.some Jvm.ClassFile.FieldType.boolean)) ∈ lw_tbl := List.mem_append_right _ (List.mem_of_getElem? (i := 281) (by decide +kernel))
theorem q282 : (Jvm.Cond.methodLink "WindowCache" (215 : Nat) ({ cls := "WindowCache$Lives", name := "prolong", desc := "(LWindowCache$Entry;)V" } : Jvm.MethodName)) ∈ lw_tbl := List.mem_append_right _ (List.mem_of_getElem? (i := 282) (by decide +kernel))
theorem q283 : (Jvm.Cond.instanceMethod ({ cls := "WindowCache$Lives", name := "prolong", desc := "(LWindowCache$Entry;)V" } : Jvm.MethodName)) ∈ lw_tbl := List.mem_append_right _ (List.mem_of_getElem? (i := 283) (by decide +kernel))
theorem q284 : (Jvm.Cond.selects "WindowCache$Lives" ({ cls := "WindowCache$Lives", name := "prolong", desc := "(LWindowCache$Entry;)V" } : Jvm.MethodName) ({ cls := "WindowCache$Lives", name := "prolong", desc := "(LWindowCache$Entry;)V" } : Jvm.MethodName)) ∈ lw_tbl := List.mem_append_right _ (List.mem_of_getElem? (i := 284) (by decide +kernel))
theorem q285 : (Jvm.Cond.code ({ cls := "WindowCache$Lives", name := "prolong", desc := "(LWindowCache$Entry;)V" } : Jvm.MethodName) prog_5_method_3_code (2 : Nat) (Option.none : Option Jvm.ClassFile.FieldType)) ∈ lw_tbl := List.mem_append_right _ (List.mem_of_getElem? (i := 285) (by decide +kernel))
theorem q286 : (Jvm.Cond.methodLink "WindowCache$Lives" (37 : Nat) ({ cls := "java/lang/Math", name := "min", desc := "(JJ)J" } : Jvm.MethodName)) ∈ lw_tbl := List.mem_append_right _ (List.mem_of_getElem? (i := 286) (by decide +kernel))
theorem q287 : (Jvm.Cond.static ({ cls := "java/lang/Math", name := "min", desc := "(JJ)J" } : Jvm.MethodName)) ∈ lw_tbl := List.mem_append_right _ (List.mem_of_getElem? (i := 287) (by decide +kernel))
theorem q288 : (Jvm.Cond.code ({ cls := "java/lang/Math", name := "min", desc := "(JJ)J" } : Jvm.MethodName) prog_18_method_70_code (4 : Nat) (Option.some Jvm.ClassFile.FieldType.long)) ∈ lw_tbl := List.mem_append_right _ (List.mem_of_getElem? (i := 288) (by decide +kernel))
theorem q289 : (Jvm.Cond.methodLink "WindowCache" (219 : Nat) ({ cls := "WindowCache$Notes", name := "add", desc := "(LWindowCache$Entry;)V" } : Jvm.MethodName)) ∈ lw_tbl := List.mem_append_right _ (List.mem_of_getElem? (i := 289) (by decide +kernel))
theorem q290 : (Jvm.Cond.instanceMethod ({ cls := "WindowCache$Notes", name := "add", desc := "(LWindowCache$Entry;)V" } : Jvm.MethodName)) ∈ lw_tbl := List.mem_append_right _ (List.mem_of_getElem? (i := 290) (by decide +kernel))
theorem q291 : (Jvm.Cond.selects "WindowCache$Notes" ({ cls := "WindowCache$Notes", name := "add", desc := "(LWindowCache$Entry;)V" } : Jvm.MethodName) ({ cls := "WindowCache$Notes", name := "add", desc := "(LWindowCache$Entry;)V" } : Jvm.MethodName)) ∈ lw_tbl := List.mem_append_right _ (List.mem_of_getElem? (i := 291) (by decide +kernel))
theorem q292 : (Jvm.Cond.code ({ cls := "WindowCache$Notes", name := "add", desc := "(LWindowCache$Entry;)V" } : Jvm.MethodName) prog_7_method_2_code (2 : Nat) (Option.none : Option Jvm.ClassFile.FieldType)) ∈ lw_tbl := List.mem_append_right _ (List.mem_of_getElem? (i := 292) (by decide +kernel))
theorem q293 : (Jvm.Cond.methodLink "WindowCacheLaw" (45 : Nat) ({ cls := "WindowCache", name := "has", desc := "(I)Z" } : Jvm.MethodName)) ∈ lw_tbl := List.mem_append_right _ (List.mem_of_getElem? (i := 293) (by decide +kernel))
theorem q294 : (Jvm.Cond.instanceMethod ({ cls := "WindowCache", name := "has", desc := "(I)Z" } : Jvm.MethodName)) ∈ lw_tbl := List.mem_append_right _ (List.mem_of_getElem? (i := 294) (by decide +kernel))
theorem q295 : (Jvm.Cond.selects "WindowCache" ({ cls := "WindowCache", name := "has", desc := "(I)Z" } : Jvm.MethodName) ({ cls := "WindowCache", name := "has", desc := "(I)Z" } : Jvm.MethodName)) ∈ lw_tbl := List.mem_append_right _ (List.mem_of_getElem? (i := 295) (by decide +kernel))
theorem q296 : (Jvm.Cond.code ({ cls := "WindowCache", name := "has", desc := "(I)Z" } : Jvm.MethodName) prog_1_method_3_code (2 : Nat) (Option.some Jvm.ClassFile.FieldType.boolean)) ∈ lw_tbl := List.mem_append_right _ (List.mem_of_getElem? (i := 296) (by decide +kernel))
theorem q297 : (Jvm.Cond.methodLink "WindowCache" (98 : Nat) ({ cls := "WindowCache", name := "isSeen", desc := "(LWindowCache$Entry;)Z" } : Jvm.MethodName)) ∈ lw_tbl := List.mem_append_right _ (List.mem_of_getElem? (i := 297) (by decide +kernel))
theorem q299 : (Jvm.Cond.instanceMethod ({ cls := "WindowCache", name := "isSeen", desc := "(LWindowCache$Entry;)Z" } : Jvm.MethodName)) ∈ lw_tbl := List.mem_append_right _ (List.mem_of_getElem? (i := 299) (by decide +kernel))
theorem q300 : (Jvm.Cond.code ({ cls := "WindowCache", name := "isSeen", desc := "(LWindowCache$Entry;)Z" } : Jvm.MethodName) prog_1_method_18_code (2 : Nat) (Option.some Jvm.ClassFile.FieldType.boolean)) ∈ lw_tbl := List.mem_append_right _ (List.mem_of_getElem? (i := 300) (by decide +kernel))
theorem q301 : (Jvm.Cond.methodLink "WindowCacheLaw" (58 : Nat) ({ cls := "WindowCache", name := "remove", desc := "(I)I" } : Jvm.MethodName)) ∈ lw_tbl := List.mem_append_right _ (List.mem_of_getElem? (i := 301) (by decide +kernel))
theorem q302 : (Jvm.Cond.instanceMethod ({ cls := "WindowCache", name := "remove", desc := "(I)I" } : Jvm.MethodName)) ∈ lw_tbl := List.mem_append_right _ (List.mem_of_getElem? (i := 302) (by decide +kernel))
theorem q303 : (Jvm.Cond.selects "WindowCache" ({ cls := "WindowCache", name := "remove", desc := "(I)I" } : Jvm.MethodName) ({ cls := "WindowCache", name := "remove", desc := "(I)I" } : Jvm.MethodName)) ∈ lw_tbl := List.mem_append_right _ (List.mem_of_getElem? (i := 303) (by decide +kernel))
theorem q304 : (Jvm.Cond.code ({ cls := "WindowCache", name := "remove", desc := "(I)I" } : Jvm.MethodName) prog_1_method_5_code (4 : Nat) (Option.some Jvm.ClassFile.FieldType.int)) ∈ lw_tbl := List.mem_append_right _ (List.mem_of_getElem? (i := 304) (by decide +kernel))
theorem q305 : (Jvm.Cond.methodLink "WindowCache" (113 : Nat) ({ cls := "WindowCache", name := "dropFromMap", desc := "(LWindowCache$Entry;I)V" } : Jvm.MethodName)) ∈ lw_tbl := List.mem_append_right _ (List.mem_of_getElem? (i := 305) (by decide +kernel))
theorem q307 : (Jvm.Cond.instanceMethod ({ cls := "WindowCache", name := "dropFromMap", desc := "(LWindowCache$Entry;I)V" } : Jvm.MethodName)) ∈ lw_tbl := List.mem_append_right _ (List.mem_of_getElem? (i := 307) (by decide +kernel))
theorem q308 : (Jvm.Cond.code ({ cls := "WindowCache", name := "dropFromMap", desc := "(LWindowCache$Entry;I)V" } : Jvm.MethodName) prog_1_method_23_code (3 : Nat) (Option.none : Option Jvm.ClassFile.FieldType)) ∈ lw_tbl := List.mem_append_right _ (List.mem_of_getElem? (i := 308) (by decide +kernel))
theorem q309 : (Jvm.Cond.methodLink "WindowCache" (227 : Nat) ({ cls := "WindowCache$Log", name := "add", desc := "(LWindowCache$Entry;I)V" } : Jvm.MethodName)) ∈ lw_tbl := List.mem_append_right _ (List.mem_of_getElem? (i := 309) (by decide +kernel))
theorem q310 : (Jvm.Cond.instanceMethod ({ cls := "WindowCache$Log", name := "add", desc := "(LWindowCache$Entry;I)V" } : Jvm.MethodName)) ∈ lw_tbl := List.mem_append_right _ (List.mem_of_getElem? (i := 310) (by decide +kernel))
theorem q311 : (Jvm.Cond.selects "WindowCache$Log" ({ cls := "WindowCache$Log", name := "add", desc := "(LWindowCache$Entry;I)V" } : Jvm.MethodName) ({ cls := "WindowCache$Log", name := "add", desc := "(LWindowCache$Entry;I)V" } : Jvm.MethodName)) ∈ lw_tbl := List.mem_append_right _ (List.mem_of_getElem? (i := 311) (by decide +kernel))
theorem q312 : (Jvm.Cond.code ({ cls := "WindowCache$Log", name := "add", desc := "(LWindowCache$Entry;I)V" } : Jvm.MethodName) prog_6_method_2_code (3 : Nat) (Option.none : Option Jvm.ClassFile.FieldType)) ∈ lw_tbl := List.mem_append_right _ (List.mem_of_getElem? (i := 312) (by decide +kernel))
theorem q313 : (Jvm.Cond.methodLink "WindowCache" (117 : Nat) ({ cls := "WindowCache$Tasks", name := "addUntilFull", desc := "(ILWindowCache$Entry;)Z" } : Jvm.MethodName)) ∈ lw_tbl := List.mem_append_right _ (List.mem_of_getElem? (i := 313) (by decide +kernel))
theorem q314 : (Jvm.Cond.instanceMethod ({ cls := "WindowCache$Tasks", name := "addUntilFull", desc := "(ILWindowCache$Entry;)Z" } : Jvm.MethodName)) ∈ lw_tbl := List.mem_append_right _ (List.mem_of_getElem? (i := 314) (by decide +kernel))
theorem q315 : (Jvm.Cond.selects "WindowCache$Tasks" ({ cls := "WindowCache$Tasks", name := "addUntilFull", desc := "(ILWindowCache$Entry;)Z" } : Jvm.MethodName) ({ cls := "WindowCache$Tasks", name := "addUntilFull", desc := "(ILWindowCache$Entry;)Z" } : Jvm.MethodName)) ∈ lw_tbl := List.mem_append_right _ (List.mem_of_getElem? (i := 315) (by decide +kernel))
theorem q316 : (Jvm.Cond.code ({ cls := "WindowCache$Tasks", name := "addUntilFull", desc := "(ILWindowCache$Entry;)Z" } : Jvm.MethodName) prog_10_method_2_code (3 : Nat) (Option.some Jvm.ClassFile.FieldType.boolean)) ∈ lw_tbl := List.mem_append_right _ (List.mem_of_getElem? (i := 316) (by decide +kernel))
theorem q317 : (Jvm.Cond.methodLink "WindowCache" (121 : Nat) ({ cls := "WindowCache", name := "tidy", desc := "()V" } : Jvm.MethodName)) ∈ lw_tbl := List.mem_append_right _ (List.mem_of_getElem? (i := 317) (by decide +kernel))
theorem q319 : (Jvm.Cond.instanceMethod ({ cls := "WindowCache", name := "tidy", desc := "()V" } : Jvm.MethodName)) ∈ lw_tbl := List.mem_append_right _ (List.mem_of_getElem? (i := 319) (by decide +kernel))
theorem q320 : (Jvm.Cond.code ({ cls := "WindowCache", name := "tidy", desc := "()V" } : Jvm.MethodName) prog_1_method_26_code (1 : Nat) (Option.none : Option Jvm.ClassFile.FieldType)) ∈ lw_tbl := List.mem_append_right _ (List.mem_of_getElem? (i := 320) (by decide +kernel))
theorem q321 : (Jvm.Cond.methodLink "WindowCache" (248 : Nat) ({ cls := "WindowCache", name := "takeNotes", desc := "(LWindowCache$Notes;)V" } : Jvm.MethodName)) ∈ lw_tbl := List.mem_append_right _ (List.mem_of_getElem? (i := 321) (by decide +kernel))
end
section
theorem q323 : (Jvm.Cond.instanceMethod ({ cls := "WindowCache", name := "takeNotes", desc := "(LWindowCache$Notes;)V" } : Jvm.MethodName)) ∈ lw_tbl := List.mem_append_right _ (List.mem_of_getElem? (i := 323) (by decide +kernel))
theorem q324 : (Jvm.Cond.code ({ cls := "WindowCache", name := "takeNotes", desc := "(LWindowCache$Notes;)V" } : Jvm.MethodName) prog_1_method_27_code (4 : Nat) (Option.none : Option Jvm.ClassFile.FieldType)) ∈ lw_tbl := List.mem_append_right _ (List.mem_of_getElem? (i := 324) (by decide +kernel))
theorem q325 : (Jvm.Cond.methodLink "WindowCache" (271 : Nat) ({ cls := "WindowCache$Counts", name := "add", desc := "(I)V" } : Jvm.MethodName)) ∈ lw_tbl := List.mem_append_right _ (List.mem_of_getElem? (i := 325) (by decide +kernel))
theorem q326 : (Jvm.Cond.instanceMethod ({ cls := "WindowCache$Counts", name := "add", desc := "(I)V" } : Jvm.MethodName)) ∈ lw_tbl := List.mem_append_right _ (List.mem_of_getElem? (i := 326) (by decide +kernel))
theorem q327 : (Jvm.Cond.selects "WindowCache$Counts" ({ cls := "WindowCache$Counts", name := "add", desc := "(I)V" } : Jvm.MethodName) ({ cls := "WindowCache$Counts", name := "add", desc := "(I)V" } : Jvm.MethodName)) ∈ lw_tbl := List.mem_append_right _ (List.mem_of_getElem? (i := 327) (by decide +kernel))
theorem q328 : (Jvm.Cond.code ({ cls := "WindowCache$Counts", name := "add", desc := "(I)V" } : Jvm.MethodName) prog_3_method_2_code (6 : Nat) (Option.none : Option Jvm.ClassFile.FieldType)) ∈ lw_tbl := List.mem_append_right _ (List.mem_of_getElem? (i := 328) (by decide +kernel))
theorem q329 : (Jvm.Cond.methodLink "WindowCache$Counts" (17 : Nat) ({ cls := "WindowCache$Counts", name := "placeOf", desc := "(II)I" } : Jvm.MethodName)) ∈ lw_tbl := List.mem_append_right _ (List.mem_of_getElem? (i := 329) (by decide +kernel))
theorem q330 : (Jvm.Cond.instanceMethod ({ cls := "WindowCache$Counts", name := "placeOf", desc := "(II)I" } : Jvm.MethodName)) ∈ lw_tbl := List.mem_append_right _ (List.mem_of_getElem? (i := 330) (by decide +kernel))
theorem q331 : (Jvm.Cond.selects "WindowCache$Counts" ({ cls := "WindowCache$Counts", name := "placeOf", desc := "(II)I" } : Jvm.MethodName) ({ cls := "WindowCache$Counts", name := "placeOf", desc := "(II)I" } : Jvm.MethodName)) ∈ lw_tbl := List.mem_append_right _ (List.mem_of_getElem? (i := 331) (by decide +kernel))
theorem q332 : (Jvm.Cond.code ({ cls := "WindowCache$Counts", name := "placeOf", desc := "(II)I" } : Jvm.MethodName) prog_3_method_4_code (3 : Nat) (Option.some Jvm.ClassFile.FieldType.int)) ∈ lw_tbl := List.mem_append_right _ (List.mem_of_getElem? (i := 332) (by decide +kernel))
theorem q333 : (Jvm.Cond.fieldLink "WindowCache$Counts" (32 : Nat) "WindowCache$Counts" "ODD" "[I") ∈ lw_tbl := List.mem_append_right _ (List.mem_of_getElem? (i := 333) (by decide +kernel))
theorem q334 : (Jvm.Cond.laysStatic "WindowCache$Counts" "ODD" "[I") ∈ lw_tbl := List.mem_append_right _ (List.mem_of_getElem? (i := 334) (by decide +kernel))
theorem q335 : (Jvm.Cond.methodLink "WindowCache$Counts" (24 : Nat) ({ cls := "WindowCache$Counts", name := "halve", desc := "()V" } : Jvm.MethodName)) ∈ lw_tbl := List.mem_append_right _ (List.mem_of_getElem? (i := 335) (by decide +kernel))
theorem q336 : (Jvm.Cond.instanceMethod ({ cls := "WindowCache$Counts", name := "halve", desc := "()V" } : Jvm.MethodName)) ∈ lw_tbl := List.mem_append_right _ (List.mem_of_getElem? (i := 336) (by decide +kernel))
theorem q337 : (Jvm.Cond.selects "WindowCache$Counts" ({ cls := "WindowCache$Counts", name := "halve", desc := "()V" } : Jvm.MethodName) ({ cls := "WindowCache$Counts", name := "halve", desc := "()V" } : Jvm.MethodName)) ∈ lw_tbl := List.mem_append_right _ (List.mem_of_getElem? (i := 337) (by decide +kernel))
theorem q338 : (Jvm.Cond.code ({ cls := "WindowCache$Counts", name := "halve", desc := "()V" } : Jvm.MethodName) prog_3_method_5_code (3 : Nat) (Option.none : Option Jvm.ClassFile.FieldType)) ∈ lw_tbl := List.mem_append_right _ (List.mem_of_getElem? (i := 338) (by decide +kernel))
theorem q339 : (Jvm.Cond.constant "WindowCache$Counts" (35 : Nat) (286331153 : Int32)) ∈ lw_tbl := List.mem_append_right _ (List.mem_of_getElem? (i := 339) (by decide +kernel))
theorem q340 : (Jvm.Cond.methodLink "WindowCache$Counts" (36 : Nat) ({ cls := "java/lang/Integer", name := "bitCount", desc := "(I)I" } : Jvm.MethodName)) ∈ lw_tbl := List.mem_append_right _ (List.mem_of_getElem? (i := 340) (by decide +kernel))
theorem q341 : (Jvm.Cond.static ({ cls := "java/lang/Integer", name := "bitCount", desc := "(I)I" } : Jvm.MethodName)) ∈ lw_tbl := List.mem_append_right _ (List.mem_of_getElem? (i := 341) (by decide +kernel))
theorem q342 : (Jvm.Cond.code ({ cls := "java/lang/Integer", name := "bitCount", desc := "(I)I" } : Jvm.MethodName) prog_17_method_49_code (1 : Nat) (Option.some Jvm.ClassFile.FieldType.int)) ∈ lw_tbl := List.mem_append_right _ (List.mem_of_getElem? (i := 342) (by decide +kernel))
theorem q343 : (Jvm.Cond.constant "java/lang/Integer" (265 : Nat) (1431655765 : Int32)) ∈ lw_tbl := List.mem_append_right _ (List.mem_of_getElem? (i := 343) (by decide +kernel))
theorem q344 : (Jvm.Cond.constant "java/lang/Integer" (266 : Nat) (858993459 : Int32)) ∈ lw_tbl := List.mem_append_right _ (List.mem_of_getElem? (i := 344) (by decide +kernel))
theorem q345 : (Jvm.Cond.constant "java/lang/Integer" (267 : Nat) (252645135 : Int32)) ∈ lw_tbl := List.mem_append_right _ (List.mem_of_getElem? (i := 345) (by decide +kernel))
theorem q346 : (Jvm.Cond.constant "WindowCache$Counts" (42 : Nat) (2004318071 : Int32)) ∈ lw_tbl := List.mem_append_right _ (List.mem_of_getElem? (i := 346) (by decide +kernel))
theorem q347 : (Jvm.Cond.methodLink "WindowCache" (273 : Nat) ({ cls := "WindowCache$Rooms", name := "touch", desc := "(LWindowCache$Entry;)V" } : Jvm.MethodName)) ∈ lw_tbl := List.mem_append_right _ (List.mem_of_getElem? (i := 347) (by decide +kernel))
theorem q348 : (Jvm.Cond.instanceMethod ({ cls := "WindowCache$Rooms", name := "touch", desc := "(LWindowCache$Entry;)V" } : Jvm.MethodName)) ∈ lw_tbl := List.mem_append_right _ (List.mem_of_getElem? (i := 348) (by decide +kernel))
theorem q349 : (Jvm.Cond.selects "WindowCache$Rooms" ({ cls := "WindowCache$Rooms", name := "touch", desc := "(LWindowCache$Entry;)V" } : Jvm.MethodName) ({ cls := "WindowCache$Rooms", name := "touch", desc := "(LWindowCache$Entry;)V" } : Jvm.MethodName)) ∈ lw_tbl := List.mem_append_right _ (List.mem_of_getElem? (i := 349) (by decide +kernel))
theorem q350 : (Jvm.Cond.code ({ cls := "WindowCache$Rooms", name := "touch", desc := "(LWindowCache$Entry;)V" } : Jvm.MethodName) prog_9_method_5_code (4 : Nat) (Option.none : Option Jvm.ClassFile.FieldType)) ∈ lw_tbl := List.mem_append_right _ (List.mem_of_getElem? (i := 350) (by decide +kernel))
theorem q351 : (Jvm.Cond.methodLink "WindowCache$Rooms" (45 : Nat) ({ cls := "WindowCache$Room", name := "cutOut", desc := "(LWindowCache$Entry;)V" } : Jvm.MethodName)) ∈ lw_tbl := List.mem_append_right _ (List.mem_of_getElem? (i := 351) (by decide +kernel))
theorem q352 : (Jvm.Cond.instanceMethod ({ cls := "WindowCache$Room", name := "cutOut", desc := "(LWindowCache$Entry;)V" } : Jvm.MethodName)) ∈ lw_tbl := List.mem_append_right _ (List.mem_of_getElem? (i := 352) (by decide +kernel))
theorem q353 : (Jvm.Cond.selects "WindowCache$Room" ({ cls := "WindowCache$Room", name := "cutOut", desc := "(LWindowCache$Entry;)V" } : Jvm.MethodName) ({ cls := "WindowCache$Room", name := "cutOut", desc := "(LWindowCache$Entry;)V" } : Jvm.MethodName)) ∈ lw_tbl := List.mem_append_right _ (List.mem_of_getElem? (i := 353) (by decide +kernel))
theorem q354 : (Jvm.Cond.code ({ cls := "WindowCache$Room", name := "cutOut", desc := "(LWindowCache$Entry;)V" } : Jvm.MethodName) prog_8_method_3_code (2 : Nat) (Option.none : Option Jvm.ClassFile.FieldType)) ∈ lw_tbl := List.mem_append_right _ (List.mem_of_getElem? (i := 354) (by decide +kernel))
theorem q355 : (Jvm.Cond.methodLink "WindowCache$Rooms" (49 : Nat) ({ cls := "WindowCache$Room", name := "addLatest", desc := "(LWindowCache$Entry;)V" } : Jvm.MethodName)) ∈ lw_tbl := List.mem_append_right _ (List.mem_of_getElem? (i := 355) (by decide +kernel))
theorem q356 : (Jvm.Cond.instanceMethod ({ cls := "WindowCache$Room", name := "addLatest", desc := "(LWindowCache$Entry;)V" } : Jvm.MethodName)) ∈ lw_tbl := List.mem_append_right _ (List.mem_of_getElem? (i := 356) (by decide +kernel))
theorem q357 : (Jvm.Cond.selects "WindowCache$Room" ({ cls := "WindowCache$Room", name := "addLatest", desc := "(LWindowCache$Entry;)V" } : Jvm.MethodName) ({ cls := "WindowCache$Room", name := "addLatest", desc := "(LWindowCache$Entry;)V" } : Jvm.MethodName)) ∈ lw_tbl := List.mem_append_right _ (List.mem_of_getElem? (i := 357) (by decide +kernel))
theorem q358 : (Jvm.Cond.code ({ cls := "WindowCache$Room", name := "addLatest", desc := "(LWindowCache$Entry;)V" } : Jvm.MethodName) prog_8_method_2_code (2 : Nat) (Option.none : Option Jvm.ClassFile.FieldType)) ∈ lw_tbl := List.mem_append_right _ (List.mem_of_getElem? (i := 358) (by decide +kernel))
theorem q359 : (Jvm.Cond.methodLink "WindowCache$Rooms" (52 : Nat) ({ cls := "WindowCache$Rooms", name := "trimShielded", desc := "()V" } : Jvm.MethodName)) ∈ lw_tbl := List.mem_append_right _ (List.mem_of_getElem? (i := 359) (by decide +kernel))
theorem q360 : (Jvm.Cond.instanceMethod ({ cls := "WindowCache$Rooms", name := "trimShielded", desc := "()V" } : Jvm.MethodName)) ∈ lw_tbl := List.mem_append_right _ (List.mem_of_getElem? (i := 360) (by decide +kernel))
theorem q361 : (Jvm.Cond.selects "WindowCache$Rooms" ({ cls := "WindowCache$Rooms", name := "trimShielded", desc := "()V" } : Jvm.MethodName) ({ cls := "WindowCache$Rooms", name := "trimShielded", desc := "()V" } : Jvm.MethodName)) ∈ lw_tbl := List.mem_append_right _ (List.mem_of_getElem? (i := 361) (by decide +kernel))
theorem q362 : (Jvm.Cond.code ({ cls := "WindowCache$Rooms", name := "trimShielded", desc := "()V" } : Jvm.MethodName) prog_9_method_6_code (4 : Nat) (Option.none : Option Jvm.ClassFile.FieldType)) ∈ lw_tbl := List.mem_append_right _ (List.mem_of_getElem? (i := 362) (by decide +kernel))
theorem q363 : (Jvm.Cond.methodLink "WindowCache" (252 : Nat) ({ cls := "WindowCache", name := "takeTasks", desc := "()V" } : Jvm.MethodName)) ∈ lw_tbl := List.mem_append_right _ (List.mem_of_getElem? (i := 363) (by decide +kernel))
theorem q365 : (Jvm.Cond.instanceMethod ({ cls := "WindowCache", name := "takeTasks", desc := "()V" } : Jvm.MethodName)) ∈ lw_tbl := List.mem_append_right _ (List.mem_of_getElem? (i := 365) (by decide +kernel))
theorem q366 : (Jvm.Cond.code ({ cls := "WindowCache", name := "takeTasks", desc := "()V" } : Jvm.MethodName) prog_1_method_28_code (3 : Nat) (Option.none : Option Jvm.ClassFile.FieldType)) ∈ lw_tbl := List.mem_append_right _ (List.mem_of_getElem? (i := 366) (by decide +kernel))
theorem q367 : (Jvm.Cond.methodLink "WindowCache" (281 : Nat) ({ cls := "WindowCache$Rooms", name := "takeOut", desc := "(LWindowCache$Entry;)V" } : Jvm.MethodName)) ∈ lw_tbl := List.mem_append_right _ (List.mem_of_getElem? (i := 367) (by decide +kernel))
theorem q368 : (Jvm.Cond.instanceMethod ({ cls := "WindowCache$Rooms", name := "takeOut", desc := "(LWindowCache$Entry;)V" } : Jvm.MethodName)) ∈ lw_tbl := List.mem_append_right _ (List.mem_of_getElem? (i := 368) (by decide +kernel))
theorem q369 : (Jvm.Cond.selects "WindowCache$Rooms" ({ cls := "WindowCache$Rooms", name := "takeOut", desc := "(LWindowCache$Entry;)V" } : Jvm.MethodName) ({ cls := "WindowCache$Rooms", name := "takeOut", desc := "(LWindowCache$Entry;)V" } : Jvm.MethodName)) ∈ lw_tbl := List.mem_append_right _ (List.mem_of_getElem? (i := 369) (by decide +kernel))
theorem q370 : (Jvm.Cond.code ({ cls := "WindowCache$Rooms", name := "takeOut", desc := "(LWindowCache$Entry;)V" } : Jvm.MethodName) prog_9_method_4_code (2 : Nat) (Option.none : Option Jvm.ClassFile.FieldType)) ∈ lw_tbl := List.mem_append_right _ (List.mem_of_getElem? (i := 370) (by decide +kernel))
theorem q371 : (Jvm.Cond.methodLink "WindowCache" (284 : Nat) ({ cls := "WindowCache$Room", name := "addLatest", desc := "(LWindowCache$Entry;)V" } : Jvm.MethodName)) ∈ lw_tbl := List.mem_append_right _ (List.mem_of_getElem? (i := 371) (by decide +kernel))
theorem q372 : (Jvm.Cond.methodLink "WindowCache" (255 : Nat) ({ cls := "WindowCache", name := "expire", desc := "()V" } : Jvm.MethodName)) ∈ lw_tbl := List.mem_append_right _ (List.mem_of_getElem? (i := 372) (by decide +kernel))
theorem q374 : (Jvm.Cond.instanceMethod ({ cls := "WindowCache", name := "expire", desc := "()V" } : Jvm.MethodName)) ∈ lw_tbl := List.mem_append_right _ (List.mem_of_getElem? (i := 374) (by decide +kernel))
theorem q375 : (Jvm.Cond.code ({ cls := "WindowCache", name := "expire", desc := "()V" } : Jvm.MethodName) prog_1_method_29_code (3 : Nat) (Option.none : Option Jvm.ClassFile.FieldType)) ∈ lw_tbl := List.mem_append_right _ (List.mem_of_getElem? (i := 375) (by decide +kernel))
theorem q376 : (Jvm.Cond.methodLink "WindowCache" (287 : Nat) ({ cls := "WindowCache$Rooms", name := "size", desc := "()I" } : Jvm.MethodName)) ∈ lw_tbl := List.mem_append_right _ (List.mem_of_getElem? (i := 376) (by decide +kernel))
theorem q377 : (Jvm.Cond.instanceMethod ({ cls := "WindowCache$Rooms", name := "size", desc := "()I" } : Jvm.MethodName)) ∈ lw_tbl := List.mem_append_right _ (List.mem_of_getElem? (i := 377) (by decide +kernel))
theorem q378 : (Jvm.Cond.selects "WindowCache$Rooms" ({ cls := "WindowCache$Rooms", name := "size", desc := "()I" } : Jvm.MethodName) ({ cls := "WindowCache$Rooms", name := "size", desc := "()I" } : Jvm.MethodName)) ∈ lw_tbl := List.mem_append_right _ (List.mem_of_getElem? (i := 378) (by decide +kernel))
theorem q379 : (Jvm.Cond.code ({ cls := "WindowCache$Rooms", name := "size", desc := "()I" } : Jvm.MethodName) prog_9_method_3_code (1 : Nat) (Option.some Jvm.ClassFile.FieldType.int)) ∈ lw_tbl := List.mem_append_right _ (List.mem_of_getElem? (i := 379) (by decide +kernel))
theorem q380 : (Jvm.Cond.methodLink "WindowCache" (289 : Nat) ({ cls := "WindowCache$Rooms", name := "firstOver", desc := "(J)LWindowCache$Entry;" } : Jvm.MethodName)) ∈ lw_tbl := List.mem_append_right _ (List.mem_of_getElem? (i := 380) (by decide +kernel))
theorem q381 : (Jvm.Cond.instanceMethod ({ cls := "WindowCache$Rooms", name := "firstOver", desc := "(J)LWindowCache$Entry;" } : Jvm.MethodName)) ∈ lw_tbl := List.mem_append_right _ (List.mem_of_getElem? (i := 381) (by decide +kernel))
theorem q382 : (Jvm.Cond.selects "WindowCache$Rooms" ({ cls := "WindowCache$Rooms", name := "firstOver", desc := "(J)LWindowCache$Entry;" } : Jvm.MethodName) ({ cls := "WindowCache$Rooms", name := "firstOver", desc := "(J)LWindowCache$Entry;" } : Jvm.MethodName)) ∈ lw_tbl := List.mem_append_right _ (List.mem_of_getElem? (i := 382) (by decide +kernel))
theorem q383 : (Jvm.Cond.code ({ cls := "WindowCache$Rooms", name := "firstOver", desc := "(J)LWindowCache$Entry;" } : Jvm.MethodName) prog_9_method_12_code (4 : Nat) (Option.some (Jvm.ClassFile.FieldType.object "WindowCache$Entry"))) ∈ lw_tbl := List.mem_append_right _ (List.mem_of_getElem? (i := 383) (by decide +kernel))
theorem q384 : (Jvm.Cond.methodLink "WindowCache$Rooms" (67 : Nat) ({ cls := "WindowCache$Room", name := "firstOver", desc := "(JLWindowCache$Entry;)LWindowCache$Entry;" } : Jvm.MethodName)) ∈ lw_tbl := List.mem_append_right _ (List.mem_of_getElem? (i := 384) (by decide +kernel))
theorem q385 : (Jvm.Cond.instanceMethod ({ cls := "WindowCache$Room", name := "firstOver", desc := "(JLWindowCache$Entry;)LWindowCache$Entry;" } : Jvm.MethodName)) ∈ lw_tbl := List.mem_append_right _ (List.mem_of_getElem? (i := 385) (by decide +kernel))
theorem q386 : (Jvm.Cond.selects "WindowCache$Room" ({ cls := "WindowCache$Room", name := "firstOver", desc := "(JLWindowCache$Entry;)LWindowCache$Entry;" } : Jvm.MethodName) ({ cls := "WindowCache$Room", name := "firstOver", desc := "(JLWindowCache$Entry;)LWindowCache$Entry;" } : Jvm.MethodName)) ∈ lw_tbl := List.mem_append_right _ (List.mem_of_getElem? (i := 386) (by decide +kernel))
theorem q387 : (Jvm.Cond.code ({ cls := "WindowCache$Room", name := "firstOver", desc := "(JLWindowCache$Entry;)LWindowCache$Entry;" } : Jvm.MethodName) prog_8_method_5_code (6 : Nat) (Option.some (Jvm.ClassFile.FieldType.object "WindowCache$Entry"))) ∈ lw_tbl := List.mem_append_right _ (List.mem_of_getElem? (i := 387) (by decide +kernel))
theorem q388 : (Jvm.Cond.methodLink "WindowCache$Room" (45 : Nat) ({ cls := "WindowCache$Room", name := "goesBefore", desc := "(LWindowCache$Entry;LWindowCache$Entry;)Z" } : Jvm.MethodName)) ∈ lw_tbl := List.mem_append_right _ (List.mem_of_getElem? (i := 388) (by decide +kernel))
theorem q389 : (Jvm.Cond.static ({ cls := "WindowCache$Room", name := "goesBefore", desc := "(LWindowCache$Entry;LWindowCache$Entry;)Z" } : Jvm.MethodName)) ∈ lw_tbl := List.mem_append_right _ (List.mem_of_getElem? (i := 389) (by decide +kernel))
theorem q390 : (Jvm.Cond.code ({ cls := "WindowCache$Room", name := "goesBefore", desc := "(LWindowCache$Entry;LWindowCache$Entry;)Z" } : Jvm.MethodName) prog_8_method_6_code (2 : Nat) (Option.some Jvm.ClassFile.FieldType.boolean)) ∈ lw_tbl := List.mem_append_right _ (List.mem_of_getElem? (i := 390) (by decide +kernel))
theorem q391 : (Jvm.Cond.methodLink "WindowCache" (258 : Nat) ({ cls := "WindowCache$Rooms", name := "spillWindow", desc := "()LWindowCache$Entry;" } : Jvm.MethodName)) ∈ lw_tbl := List.mem_append_right _ (List.mem_of_getElem? (i := 391) (by decide +kernel))
theorem q392 : (Jvm.Cond.instanceMethod ({ cls := "WindowCache$Rooms", name := "spillWindow", desc := "()LWindowCache$Entry;" } : Jvm.MethodName)) ∈ lw_tbl := List.mem_append_right _ (List.mem_of_getElem? (i := 392) (by decide +kernel))
theorem q393 : (Jvm.Cond.selects "WindowCache$Rooms" ({ cls := "WindowCache$Rooms", name := "spillWindow", desc := "()LWindowCache$Entry;" } : Jvm.MethodName) ({ cls := "WindowCache$Rooms", name := "spillWindow", desc := "()LWindowCache$Entry;" } : Jvm.MethodName)) ∈ lw_tbl := List.mem_append_right _ (List.mem_of_getElem? (i := 393) (by decide +kernel))
theorem q394 : (Jvm.Cond.code ({ cls := "WindowCache$Rooms", name := "spillWindow", desc := "()LWindowCache$Entry;" } : Jvm.MethodName) prog_9_method_7_code (3 : Nat) (Option.some (Jvm.ClassFile.FieldType.object "WindowCache$Entry"))) ∈ lw_tbl := List.mem_append_right _ (List.mem_of_getElem? (i := 394) (by decide +kernel))
theorem q395 : (Jvm.Cond.methodLink "WindowCache$Rooms" (59 : Nat) ({ cls := "WindowCache$Rooms", name := "moveEarliest", desc := "(LWindowCache$Room;LWindowCache$Room;)V" } : Jvm.MethodName)) ∈ lw_tbl := List.mem_append_right _ (List.mem_of_getElem? (i := 395) (by decide +kernel))
theorem q396 : (Jvm.Cond.instanceMethod ({ cls := "WindowCache$Rooms", name := "moveEarliest", desc := "(LWindowCache$Room;LWindowCache$Room;)V" } : Jvm.MethodName)) ∈ lw_tbl := List.mem_append_right _ (List.mem_of_getElem? (i := 396) (by decide +kernel))
theorem q397 : (Jvm.Cond.selects "WindowCache$Rooms" ({ cls := "WindowCache$Rooms", name := "moveEarliest", desc := "(LWindowCache$Room;LWindowCache$Room;)V" } : Jvm.MethodName) ({ cls := "WindowCache$Rooms", name := "moveEarliest", desc := "(LWindowCache$Room;LWindowCache$Room;)V" } : Jvm.MethodName)) ∈ lw_tbl := List.mem_append_right _ (List.mem_of_getElem? (i := 397) (by decide +kernel))
theorem q398 : (Jvm.Cond.code ({ cls := "WindowCache$Rooms", name := "moveEarliest", desc := "(LWindowCache$Room;LWindowCache$Room;)V" } : Jvm.MethodName) prog_9_method_9_code (4 : Nat) (Option.none : Option Jvm.ClassFile.FieldType)) ∈ lw_tbl := List.mem_append_right _ (List.mem_of_getElem? (i := 398) (by decide +kernel))
theorem q399 : (Jvm.Cond.methodLink "WindowCache" (262 : Nat) ({ cls := "WindowCache", name := "evict", desc := "(LWindowCache$Entry;)V" } : Jvm.MethodName)) ∈ lw_tbl := List.mem_append_right _ (List.mem_of_getElem? (i := 399) (by decide +kernel))
theorem q401 : (Jvm.Cond.instanceMethod ({ cls := "WindowCache", name := "evict", desc := "(LWindowCache$Entry;)V" } : Jvm.MethodName)) ∈ lw_tbl := List.mem_append_right _ (List.mem_of_getElem? (i := 401) (by decide +kernel))
theorem q402 : (Jvm.Cond.code ({ cls := "WindowCache", name := "evict", desc := "(LWindowCache$Entry;)V" } : Jvm.MethodName) prog_1_method_30_code (6 : Nat) (Option.none : Option Jvm.ClassFile.FieldType)) ∈ lw_tbl := List.mem_append_right _ (List.mem_of_getElem? (i := 402) (by decide +kernel))
theorem q403 : (Jvm.Cond.methodLink "WindowCache" (153 : Nat) ({ cls := "WindowCache$Rooms", name := "weight", desc := "()I" } : Jvm.MethodName)) ∈ lw_tbl := List.mem_append_right _ (List.mem_of_getElem? (i := 403) (by decide +kernel))
theorem q404 : (Jvm.Cond.instanceMethod ({ cls := "WindowCache$Rooms", name := "weight", desc := "()I" } : Jvm.MethodName)) ∈ lw_tbl := List.mem_append_right _ (List.mem_of_getElem? (i := 404) (by decide +kernel))
theorem q405 : (Jvm.Cond.selects "WindowCache$Rooms" ({ cls := "WindowCache$Rooms", name := "weight", desc := "()I" } : Jvm.MethodName) ({ cls := "WindowCache$Rooms", name := "weight", desc := "()I" } : Jvm.MethodName)) ∈ lw_tbl := List.mem_append_right _ (List.mem_of_getElem? (i := 405) (by decide +kernel))
theorem q406 : (Jvm.Cond.code ({ cls := "WindowCache$Rooms", name := "weight", desc := "()I" } : Jvm.MethodName) prog_9_method_2_code (1 : Nat) (Option.some Jvm.ClassFile.FieldType.int)) ∈ lw_tbl := List.mem_append_right _ (List.mem_of_getElem? (i := 406) (by decide +kernel))
theorem q407 : (Jvm.Cond.methodLink "WindowCache" (295 : Nat) ({ cls := "WindowCache$Rooms", name := "victim", desc := "()LWindowCache$Entry;" } : Jvm.MethodName)) ∈ lw_tbl := List.mem_append_right _ (List.mem_of_getElem? (i := 407) (by decide +kernel))
theorem q408 : (Jvm.Cond.instanceMethod ({ cls := "WindowCache$Rooms", name := "victim", desc := "()LWindowCache$Entry;" } : Jvm.MethodName)) ∈ lw_tbl := List.mem_append_right _ (List.mem_of_getElem? (i := 408) (by decide +kernel))
theorem q409 : (Jvm.Cond.selects "WindowCache$Rooms" ({ cls := "WindowCache$Rooms", name := "victim", desc := "()LWindowCache$Entry;" } : Jvm.MethodName) ({ cls := "WindowCache$Rooms", name := "victim", desc := "()LWindowCache$Entry;" } : Jvm.MethodName)) ∈ lw_tbl := List.mem_append_right _ (List.mem_of_getElem? (i := 409) (by decide +kernel))
theorem q410 : (Jvm.Cond.code ({ cls := "WindowCache$Rooms", name := "victim", desc := "()LWindowCache$Entry;" } : Jvm.MethodName) prog_9_method_11_code (1 : Nat) (Option.some (Jvm.ClassFile.FieldType.object "WindowCache$Entry"))) ∈ lw_tbl := List.mem_append_right _ (List.mem_of_getElem? (i := 410) (by decide +kernel))
theorem q411 : (Jvm.Cond.methodLink "WindowCache" (298 : Nat) ({ cls := "WindowCache", name := "loserOf", desc := "(LWindowCache$Entry;LWindowCache$Entry;)LWindowCache$Entry;" } : Jvm.MethodName)) ∈ lw_tbl := List.mem_append_right _ (List.mem_of_getElem? (i := 411) (by decide +kernel))
theorem q413 : (Jvm.Cond.instanceMethod ({ cls := "WindowCache", name := "loserOf", desc := "(LWindowCache$Entry;LWindowCache$Entry;)LWindowCache$Entry;" } : Jvm.MethodName)) ∈ lw_tbl := List.mem_append_right _ (List.mem_of_getElem? (i := 413) (by decide +kernel))
theorem q414 : (Jvm.Cond.code ({ cls := "WindowCache", name := "loserOf", desc := "(LWindowCache$Entry;LWindowCache$Entry;)LWindowCache$Entry;" } : Jvm.MethodName) prog_1_method_31_code (4 : Nat) (Option.some (Jvm.ClassFile.FieldType.object "WindowCache$Entry"))) ∈ lw_tbl := List.mem_append_right _ (List.mem_of_getElem? (i := 414) (by decide +kernel))
theorem q415 : (Jvm.Cond.methodLink "WindowCache" (203 : Nat) ({ cls := "WindowCache$Counts", name := "leastOf", desc := "(I)I" } : Jvm.MethodName)) ∈ lw_tbl := List.mem_append_right _ (List.mem_of_getElem? (i := 415) (by decide +kernel))
theorem q416 : (Jvm.Cond.instanceMethod ({ cls := "WindowCache$Counts", name := "leastOf", desc := "(I)I" } : Jvm.MethodName)) ∈ lw_tbl := List.mem_append_right _ (List.mem_of_getElem? (i := 416) (by decide +kernel))
theorem q417 : (Jvm.Cond.selects "WindowCache$Counts" ({ cls := "WindowCache$Counts", name := "leastOf", desc := "(I)I" } : Jvm.MethodName) ({ cls := "WindowCache$Counts", name := "leastOf", desc := "(I)I" } : Jvm.MethodName)) ∈ lw_tbl := List.mem_append_right _ (List.mem_of_getElem? (i := 417) (by decide +kernel))
theorem q418 : (Jvm.Cond.code ({ cls := "WindowCache$Counts", name := "leastOf", desc := "(I)I" } : Jvm.MethodName) prog_3_method_3_code (5 : Nat) (Option.some Jvm.ClassFile.FieldType.int)) ∈ lw_tbl := List.mem_append_right _ (List.mem_of_getElem? (i := 418) (by decide +kernel))
theorem q419 : (Jvm.Cond.methodLink "WindowCache$Counts" (27 : Nat) ({ cls := "java/lang/Math", name := "min", desc := "(II)I" } : Jvm.MethodName)) ∈ lw_tbl := List.mem_append_right _ (List.mem_of_getElem? (i := 419) (by decide +kernel))
theorem q420 : (Jvm.Cond.methodLink "WindowCache" (305 : Nat) ({ cls := "WindowCache", name := "nextDraw", desc := "()I" } : Jvm.MethodName)) ∈ lw_tbl := List.mem_append_right _ (List.mem_of_getElem? (i := 420) (by decide +kernel))
theorem q422 : (Jvm.Cond.instanceMethod ({ cls := "WindowCache", name := "nextDraw", desc := "()I" } : Jvm.MethodName)) ∈ lw_tbl := List.mem_append_right _ (List.mem_of_getElem? (i := 422) (by decide +kernel))
theorem q423 : (Jvm.Cond.code ({ cls := "WindowCache", name := "nextDraw", desc := "()I" } : Jvm.MethodName) prog_1_method_32_code (1 : Nat) (Option.some Jvm.ClassFile.FieldType.int)) ∈ lw_tbl := List.mem_append_right _ (List.mem_of_getElem? (i := 423) (by decide +kernel))
theorem q424 : (Jvm.Cond.methodLink "WindowCache" (265 : Nat) ({ cls := "WindowCache", name := "climbIfDue", desc := "()V" } : Jvm.MethodName)) ∈ lw_tbl := List.mem_append_right _ (List.mem_of_getElem? (i := 424) (by decide +kernel))
theorem q426 : (Jvm.Cond.instanceMethod ({ cls := "WindowCache", name := "climbIfDue", desc := "()V" } : Jvm.MethodName)) ∈ lw_tbl := List.mem_append_right _ (List.mem_of_getElem? (i := 426) (by decide +kernel))
theorem q427 : (Jvm.Cond.code ({ cls := "WindowCache", name := "climbIfDue", desc := "()V" } : Jvm.MethodName) prog_1_method_33_code (1 : Nat) (Option.none : Option Jvm.ClassFile.FieldType)) ∈ lw_tbl := List.mem_append_right _ (List.mem_of_getElem? (i := 427) (by decide +kernel))
theorem q428 : (Jvm.Cond.methodLink "WindowCache" (308 : Nat) ({ cls := "WindowCache$Climb", name := "isDue", desc := "()Z" } : Jvm.MethodName)) ∈ lw_tbl := List.mem_append_right _ (List.mem_of_getElem? (i := 428) (by decide +kernel))
theorem q429 : (Jvm.Cond.instanceMethod ({ cls := "WindowCache$Climb", name := "isDue", desc := "()Z" } : Jvm.MethodName)) ∈ lw_tbl := List.mem_append_right _ (List.mem_of_getElem? (i := 429) (by decide +kernel))
theorem q430 : (Jvm.Cond.selects "WindowCache$Climb" ({ cls := "WindowCache$Climb", name := "isDue", desc := "()Z" } : Jvm.MethodName) ({ cls := "WindowCache$Climb", name := "isDue", desc := "()Z" } : Jvm.MethodName)) ∈ lw_tbl := List.mem_append_right _ (List.mem_of_getElem? (i := 430) (by decide +kernel))
theorem q431 : (Jvm.Cond.code ({ cls := "WindowCache$Climb", name := "isDue", desc := "()Z" } : Jvm.MethodName) prog_2_method_2_code (1 : Nat) (Option.some Jvm.ClassFile.FieldType.boolean)) ∈ lw_tbl := List.mem_append_right _ (List.mem_of_getElem? (i := 431) (by decide +kernel))
theorem q432 : (Jvm.Cond.methodLink "WindowCache" (312 : Nat) ({ cls := "WindowCache$Climb", name := "change", desc := "()I" } : Jvm.MethodName)) ∈ lw_tbl := List.mem_append_right _ (List.mem_of_getElem? (i := 432) (by decide +kernel))
theorem q433 : (Jvm.Cond.instanceMethod ({ cls := "WindowCache$Climb", name := "change", desc := "()I" } : Jvm.MethodName)) ∈ lw_tbl := List.mem_append_right _ (List.mem_of_getElem? (i := 433) (by decide +kernel))
theorem q434 : (Jvm.Cond.selects "WindowCache$Climb" ({ cls := "WindowCache$Climb", name := "change", desc := "()I" } : Jvm.MethodName) ({ cls := "WindowCache$Climb", name := "change", desc := "()I" } : Jvm.MethodName)) ∈ lw_tbl := List.mem_append_right _ (List.mem_of_getElem? (i := 434) (by decide +kernel))
theorem q435 : (Jvm.Cond.code ({ cls := "WindowCache$Climb", name := "change", desc := "()I" } : Jvm.MethodName) prog_2_method_3_code (5 : Nat) (Option.some Jvm.ClassFile.FieldType.int)) ∈ lw_tbl := List.mem_append_right _ (List.mem_of_getElem? (i := 435) (by decide +kernel))
theorem q436 : (Jvm.Cond.methodLink "WindowCache$Climb" (44 : Nat) ({ cls := "java/lang/Math", name := "abs", desc := "(I)I" } : Jvm.MethodName)) ∈ lw_tbl := List.mem_append_right _ (List.mem_of_getElem? (i := 436) (by decide +kernel))
theorem q437 : (Jvm.Cond.static ({ cls := "java/lang/Math", name := "abs", desc := "(I)I" } : Jvm.MethodName)) ∈ lw_tbl := List.mem_append_right _ (List.mem_of_getElem? (i := 437) (by decide +kernel))
theorem q438 : (Jvm.Cond.code ({ cls := "java/lang/Math", name := "abs", desc := "(I)I" } : Jvm.MethodName) prog_18_method_59_code (1 : Nat) (Option.some Jvm.ClassFile.FieldType.int)) ∈ lw_tbl := List.mem_append_right _ (List.mem_of_getElem? (i := 438) (by decide +kernel))
theorem q439 : (Jvm.Cond.methodLink "WindowCache" (315 : Nat) ({ cls := "WindowCache$Rooms", name := "changeWindow", desc := "(I)V" } : Jvm.MethodName)) ∈ lw_tbl := List.mem_append_right _ (List.mem_of_getElem? (i := 439) (by decide +kernel))
theorem q440 : (Jvm.Cond.instanceMethod ({ cls := "WindowCache$Rooms", name := "changeWindow", desc := "(I)V" } : Jvm.MethodName)) ∈ lw_tbl := List.mem_append_right _ (List.mem_of_getElem? (i := 440) (by decide +kernel))
theorem q441 : (Jvm.Cond.selects "WindowCache$Rooms" ({ cls := "WindowCache$Rooms", name := "changeWindow", desc := "(I)V" } : Jvm.MethodName) ({ cls := "WindowCache$Rooms", name := "changeWindow", desc := "(I)V" } : Jvm.MethodName)) ∈ lw_tbl := List.mem_append_right _ (List.mem_of_getElem? (i := 441) (by decide +kernel))
theorem q442 : (Jvm.Cond.code ({ cls := "WindowCache$Rooms", name := "changeWindow", desc := "(I)V" } : Jvm.MethodName) prog_9_method_10_code (2 : Nat) (Option.none : Option Jvm.ClassFile.FieldType)) ∈ lw_tbl := List.mem_append_right _ (List.mem_of_getElem? (i := 442) (by decide +kernel))
theorem q443 : (Jvm.Cond.methodLink "WindowCache$Rooms" (64 : Nat) ({ cls := "java/lang/Math", name := "min", desc := "(II)I" } : Jvm.MethodName)) ∈ lw_tbl := List.mem_append_right _ (List.mem_of_getElem? (i := 443) (by decide +kernel))
theorem q444 : (Jvm.Cond.methodLink "WindowCache" (321 : Nat) ({ cls := "WindowCache$Rooms", name := "fillWindow", desc := "()V" } : Jvm.MethodName)) ∈ lw_tbl := List.mem_append_right _ (List.mem_of_getElem? (i := 444) (by decide +kernel))
theorem q445 : (Jvm.Cond.instanceMethod ({ cls := "WindowCache$Rooms", name := "fillWindow", desc := "()V" } : Jvm.MethodName)) ∈ lw_tbl := List.mem_append_right _ (List.mem_of_getElem? (i := 445) (by decide +kernel))
theorem q446 : (Jvm.Cond.selects "WindowCache$Rooms" ({ cls := "WindowCache$Rooms", name := "fillWindow", desc := "()V" } : Jvm.MethodName) ({ cls := "WindowCache$Rooms", name := "fillWindow", desc := "()V" } : Jvm.MethodName)) ∈ lw_tbl := List.mem_append_right _ (List.mem_of_getElem? (i := 446) (by decide +kernel))
theorem q447 : (Jvm.Cond.code ({ cls := "WindowCache$Rooms", name := "fillWindow", desc := "()V" } : Jvm.MethodName) prog_9_method_8_code (3 : Nat) (Option.none : Option Jvm.ClassFile.FieldType)) ∈ lw_tbl := List.mem_append_right _ (List.mem_of_getElem? (i := 447) (by decide +kernel))
theorem q448 : (Jvm.Cond.methodLink "WindowCache" (324 : Nat) ({ cls := "WindowCache$Rooms", name := "trimShielded", desc := "()V" } : Jvm.MethodName)) ∈ lw_tbl := List.mem_append_right _ (List.mem_of_getElem? (i := 448) (by decide +kernel))
theorem q449 : (Jvm.Cond.methodLink "WindowCacheLaw" (66 : Nat) ({ cls := "WindowCache", name := "refresh", desc := "(I)Z" } : Jvm.MethodName)) ∈ lw_tbl := List.mem_append_right _ (List.mem_of_getElem? (i := 449) (by decide +kernel))
theorem q450 : (Jvm.Cond.instanceMethod ({ cls := "WindowCache", name := "refresh", desc := "(I)Z" } : Jvm.MethodName)) ∈ lw_tbl := List.mem_append_right _ (List.mem_of_getElem? (i := 450) (by decide +kernel))
theorem q451 : (Jvm.Cond.selects "WindowCache" ({ cls := "WindowCache", name := "refresh", desc := "(I)Z" } : Jvm.MethodName) ({ cls := "WindowCache", name := "refresh", desc := "(I)Z" } : Jvm.MethodName)) ∈ lw_tbl := List.mem_append_right _ (List.mem_of_getElem? (i := 451) (by decide +kernel))
theorem q452 : (Jvm.Cond.code ({ cls := "WindowCache", name := "refresh", desc := "(I)Z" } : Jvm.MethodName) prog_1_method_7_code (3 : Nat) (Option.some Jvm.ClassFile.FieldType.boolean)) ∈ lw_tbl := List.mem_append_right _ (List.mem_of_getElem? (i := 452) (by decide +kernel))
theorem q453 : (Jvm.Cond.instantiable "WindowCache$Way" (2 : Nat)) ∈ lw_tbl := List.mem_append_right _ (List.mem_of_getElem? (i := 453) (by decide +kernel))
theorem q454 : (Jvm.Cond.methodLink "WindowCache" (130 : Nat) ({ cls := "WindowCache$Way", name := "<init>", desc := "(LWindowCache$Entry;I)V" } : Jvm.MethodName)) ∈ lw_tbl := List.mem_append_right _ (List.mem_of_getElem? (i := 454) (by decide +kernel))
theorem q455 : (Jvm.Cond.instanceMethod ({ cls := "WindowCache$Way", name := "<init>", desc := "(LWindowCache$Entry;I)V" } : Jvm.MethodName)) ∈ lw_tbl := List.mem_append_right _ (List.mem_of_getElem? (i := 455) (by decide +kernel))
theorem q456 : (Jvm.Cond.code ({ cls := "WindowCache$Way", name := "<init>", desc := "(LWindowCache$Entry;I)V" } : Jvm.MethodName) prog_11_method_1_code (3 : Nat) (Option.none : Option Jvm.ClassFile.FieldType)) ∈ lw_tbl := List.mem_append_right _ (List.mem_of_getElem? (i := 456) (by decide +kernel))
theorem q457 : (Jvm.Cond.methodLink "WindowCache$Way" (1 : Nat) ({ cls := "java/lang/Object", name := "<init>", desc := "()V" } : Jvm.MethodName)) ∈ lw_tbl := List.mem_append_right _ (List.mem_of_getElem? (i := 457) (by decide +kernel))
theorem q458 : (Jvm.Cond.fieldLink "WindowCache$Way" (7 : Nat) "WindowCache$Way" "entry" "LWindowCache$Entry;") ∈ lw_tbl := List.mem_append_right _ (List.mem_of_getElem? (i := 458) (by decide +kernel))
theorem q459 : (Jvm.Cond.fieldLink "WindowCache" (222 : Nat) "WindowCache$Way" "entry" "LWindowCache$Entry;") ∈ lw_tbl := List.mem_append_right _ (List.mem_of_getElem? (i := 459) (by decide +kernel))
theorem q460 : (Jvm.Cond.fieldLink "WindowCache$Way" (13 : Nat) "WindowCache$Way" "edition" "I") ∈ lw_tbl := List.mem_append_right _ (List.mem_of_getElem? (i := 460) (by decide +kernel))
theorem q461 : (Jvm.Cond.fieldLink "WindowCache" (226 : Nat) "WindowCache$Way" "edition" "I") ∈ lw_tbl := List.mem_append_right _ (List.mem_of_getElem? (i := 461) (by decide +kernel))
theorem q462 : (Jvm.Cond.laysFinal "WindowCache$Way" "WindowCache$Way" "entry" "LWindowCache$Entry;") ∈ lw_tbl := List.mem_append_right _ (List.mem_of_getElem? (i := 462) (by decide +kernel))
theorem q464 : (Jvm.Cond.laysFinal "WindowCache$Way" "WindowCache$Way" "edition" "I") ∈ lw_tbl := List.mem_append_right _ (List.mem_of_getElem? (i := 464) (by decide +kernel))
theorem q467 : (Jvm.Cond.methodLink "WindowCacheLaw" (78 : Nat) ({ cls := "WindowCache", name := "advance", desc := "(I)J" } : Jvm.MethodName)) ∈ lw_tbl := List.mem_append_right _ (List.mem_of_getElem? (i := 467) (by decide +kernel))
theorem q468 : (Jvm.Cond.instanceMethod ({ cls := "WindowCache", name := "advance", desc := "(I)J" } : Jvm.MethodName)) ∈ lw_tbl := List.mem_append_right _ (List.mem_of_getElem? (i := 468) (by decide +kernel))
theorem q469 : (Jvm.Cond.selects "WindowCache" ({ cls := "WindowCache", name := "advance", desc := "(I)J" } : Jvm.MethodName) ({ cls := "WindowCache", name := "advance", desc := "(I)J" } : Jvm.MethodName)) ∈ lw_tbl := List.mem_append_right _ (List.mem_of_getElem? (i := 469) (by decide +kernel))
theorem q470 : (Jvm.Cond.code ({ cls := "WindowCache", name := "advance", desc := "(I)J" } : Jvm.MethodName) prog_1_method_10_code (2 : Nat) (Option.some Jvm.ClassFile.FieldType.long)) ∈ lw_tbl := List.mem_append_right _ (List.mem_of_getElem? (i := 470) (by decide +kernel))
theorem q471 : (Jvm.Cond.constantLong "WindowCache" (149 : Nat) (1099511627776 : Int64)) ∈ lw_tbl := List.mem_append_right _ (List.mem_of_getElem? (i := 471) (by decide +kernel))
theorem q472 : (Jvm.Cond.constantLong "WindowCache" (151 : Nat) (-1 : Int64)) ∈ lw_tbl := List.mem_append_right _ (List.mem_of_getElem? (i := 472) (by decide +kernel))
theorem q473 : (Jvm.Cond.methodLink "WindowCacheLaw" (83 : Nat) ({ cls := "WindowCache", name := "maintain", desc := "()I" } : Jvm.MethodName)) ∈ lw_tbl := List.mem_append_right _ (List.mem_of_getElem? (i := 473) (by decide +kernel))
theorem q474 : (Jvm.Cond.instanceMethod ({ cls := "WindowCache", name := "maintain", desc := "()I" } : Jvm.MethodName)) ∈ lw_tbl := List.mem_append_right _ (List.mem_of_getElem? (i := 474) (by decide +kernel))
theorem q475 : (Jvm.Cond.selects "WindowCache" ({ cls := "WindowCache", name := "maintain", desc := "()I" } : Jvm.MethodName) ({ cls := "WindowCache", name := "maintain", desc := "()I" } : Jvm.MethodName)) ∈ lw_tbl := List.mem_append_right _ (List.mem_of_getElem? (i := 475) (by decide +kernel))
theorem q476 : (Jvm.Cond.code ({ cls := "WindowCache", name := "maintain", desc := "()I" } : Jvm.MethodName) prog_1_method_11_code (1 : Nat) (Option.some Jvm.ClassFile.FieldType.int)) ∈ lw_tbl := List.mem_append_right _ (List.mem_of_getElem? (i := 476) (by decide +kernel))
theorem q477 : (Jvm.Cond.methodLink "WindowCacheLaw" (87 : Nat) ({ cls := "WindowCache", name := "count", desc := "(I)I" } : Jvm.MethodName)) ∈ lw_tbl := List.mem_append_right _ (List.mem_of_getElem? (i := 477) (by decide +kernel))
theorem q478 : (Jvm.Cond.instanceMethod ({ cls := "WindowCache", name := "count", desc := "(I)I" } : Jvm.MethodName)) ∈ lw_tbl := List.mem_append_right _ (List.mem_of_getElem? (i := 478) (by decide +kernel))
theorem q479 : (Jvm.Cond.selects "WindowCache" ({ cls := "WindowCache", name := "count", desc := "(I)I" } : Jvm.MethodName) ({ cls := "WindowCache", name := "count", desc := "(I)I" } : Jvm.MethodName)) ∈ lw_tbl := List.mem_append_right _ (List.mem_of_getElem? (i := 479) (by decide +kernel))
theorem q480 : (Jvm.Cond.code ({ cls := "WindowCache", name := "count", desc := "(I)I" } : Jvm.MethodName) prog_1_method_12_code (2 : Nat) (Option.some Jvm.ClassFile.FieldType.int)) ∈ lw_tbl := List.mem_append_right _ (List.mem_of_getElem? (i := 480) (by decide +kernel))
theorem q481 : (Jvm.Cond.methodLink "WindowCache" (157 : Nat) ({ cls := "WindowCache", name := "entriesInMap", desc := "(Z)I" } : Jvm.MethodName)) ∈ lw_tbl := List.mem_append_right _ (List.mem_of_getElem? (i := 481) (by decide +kernel))
theorem q483 : (Jvm.Cond.instanceMethod ({ cls := "WindowCache", name := "entriesInMap", desc := "(Z)I" } : Jvm.MethodName)) ∈ lw_tbl := List.mem_append_right _ (List.mem_of_getElem? (i := 483) (by decide +kernel))
theorem q484 : (Jvm.Cond.code ({ cls := "WindowCache", name := "entriesInMap", desc := "(Z)I" } : Jvm.MethodName) prog_1_method_24_code (5 : Nat) (Option.some Jvm.ClassFile.FieldType.int)) ∈ lw_tbl := List.mem_append_right _ (List.mem_of_getElem? (i := 484) (by decide +kernel))
theorem q485 : (Jvm.Cond.methodLink "WindowCache" (200 : Nat) ({ cls := "WindowCache", name := "keysOnTheirWay", desc := "()I" } : Jvm.MethodName)) ∈ lw_tbl := List.mem_append_right _ (List.mem_of_getElem? (i := 485) (by decide +kernel))
theorem q487 : (Jvm.Cond.instanceMethod ({ cls := "WindowCache", name := "keysOnTheirWay", desc := "()I" } : Jvm.MethodName)) ∈ lw_tbl := List.mem_append_right _ (List.mem_of_getElem? (i := 487) (by decide +kernel))
theorem q488 : (Jvm.Cond.code ({ cls := "WindowCache", name := "keysOnTheirWay", desc := "()I" } : Jvm.MethodName) prog_1_method_25_code (3 : Nat) (Option.some Jvm.ClassFile.FieldType.int)) ∈ lw_tbl := List.mem_append_right _ (List.mem_of_getElem? (i := 488) (by decide +kernel))
theorem q489 : (Jvm.Cond.methodLink "WindowCacheLaw" (91 : Nat) ({ cls := "WindowCache", name := "often", desc := "(I)I" } : Jvm.MethodName)) ∈ lw_tbl := List.mem_append_right _ (List.mem_of_getElem? (i := 489) (by decide +kernel))
theorem q490 : (Jvm.Cond.instanceMethod ({ cls := "WindowCache", name := "often", desc := "(I)I" } : Jvm.MethodName)) ∈ lw_tbl := List.mem_append_right _ (List.mem_of_getElem? (i := 490) (by decide +kernel))
theorem q491 : (Jvm.Cond.selects "WindowCache" ({ cls := "WindowCache", name := "often", desc := "(I)I" } : Jvm.MethodName) ({ cls := "WindowCache", name := "often", desc := "(I)I" } : Jvm.MethodName)) ∈ lw_tbl := List.mem_append_right _ (List.mem_of_getElem? (i := 491) (by decide +kernel))
theorem q492 : (Jvm.Cond.code ({ cls := "WindowCache", name := "often", desc := "(I)I" } : Jvm.MethodName) prog_1_method_13_code (2 : Nat) (Option.some Jvm.ClassFile.FieldType.int)) ∈ lw_tbl := List.mem_append_right _ (List.mem_of_getElem? (i := 492) (by decide +kernel))
theorem q493 : (Jvm.Cond.methodLink "WindowCacheLaw" (95 : Nat) ({ cls := "WindowCache", name := "at", desc := "(II)I" } : Jvm.MethodName)) ∈ lw_tbl := List.mem_append_right _ (List.mem_of_getElem? (i := 493) (by decide +kernel))
theorem q494 : (Jvm.Cond.instanceMethod ({ cls := "WindowCache", name := "at", desc := "(II)I" } : Jvm.MethodName)) ∈ lw_tbl := List.mem_append_right _ (List.mem_of_getElem? (i := 494) (by decide +kernel))
theorem q495 : (Jvm.Cond.selects "WindowCache" ({ cls := "WindowCache", name := "at", desc := "(II)I" } : Jvm.MethodName) ({ cls := "WindowCache", name := "at", desc := "(II)I" } : Jvm.MethodName)) ∈ lw_tbl := List.mem_append_right _ (List.mem_of_getElem? (i := 495) (by decide +kernel))
theorem q496 : (Jvm.Cond.code ({ cls := "WindowCache", name := "at", desc := "(II)I" } : Jvm.MethodName) prog_1_method_14_code (3 : Nat) (Option.some Jvm.ClassFile.FieldType.int)) ∈ lw_tbl := List.mem_append_right _ (List.mem_of_getElem? (i := 496) (by decide +kernel))
theorem q497 : (Jvm.Cond.methodLink "WindowCache" (206 : Nat) ({ cls := "WindowCache$Room", name := "keyAt", desc := "(I)I" } : Jvm.MethodName)) ∈ lw_tbl := List.mem_append_right _ (List.mem_of_getElem? (i := 497) (by decide +kernel))
theorem q498 : (Jvm.Cond.instanceMethod ({ cls := "WindowCache$Room", name := "keyAt", desc := "(I)I" } : Jvm.MethodName)) ∈ lw_tbl := List.mem_append_right _ (List.mem_of_getElem? (i := 498) (by decide +kernel))
theorem q499 : (Jvm.Cond.selects "WindowCache$Room" ({ cls := "WindowCache$Room", name := "keyAt", desc := "(I)I" } : Jvm.MethodName) ({ cls := "WindowCache$Room", name := "keyAt", desc := "(I)I" } : Jvm.MethodName)) ∈ lw_tbl := List.mem_append_right _ (List.mem_of_getElem? (i := 499) (by decide +kernel))
theorem q500 : (Jvm.Cond.code ({ cls := "WindowCache$Room", name := "keyAt", desc := "(I)I" } : Jvm.MethodName) prog_8_method_4_code (4 : Nat) (Option.some Jvm.ClassFile.FieldType.int)) ∈ lw_tbl := List.mem_append_right _ (List.mem_of_getElem? (i := 500) (by decide +kernel))
theorem q501 : (Jvm.Cond.methodLink "WindowCacheLaw" (100 : Nat) ({ cls := "WindowCache", name := "listened", desc := "(II)I" } : Jvm.MethodName)) ∈ lw_tbl := List.mem_append_right _ (List.mem_of_getElem? (i := 501) (by decide +kernel))
theorem q502 : (Jvm.Cond.instanceMethod ({ cls := "WindowCache", name := "listened", desc := "(II)I" } : Jvm.MethodName)) ∈ lw_tbl := List.mem_append_right _ (List.mem_of_getElem? (i := 502) (by decide +kernel))
theorem q503 : (Jvm.Cond.selects "WindowCache" ({ cls := "WindowCache", name := "listened", desc := "(II)I" } : Jvm.MethodName) ({ cls := "WindowCache", name := "listened", desc := "(II)I" } : Jvm.MethodName)) ∈ lw_tbl := List.mem_append_right _ (List.mem_of_getElem? (i := 503) (by decide +kernel))
theorem q504 : (Jvm.Cond.code ({ cls := "WindowCache", name := "listened", desc := "(II)I" } : Jvm.MethodName) prog_1_method_15_code (3 : Nat) (Option.some Jvm.ClassFile.FieldType.int)) ∈ lw_tbl := List.mem_append_right _ (List.mem_of_getElem? (i := 504) (by decide +kernel))
theorem q505 : (Jvm.Cond.methodLink "WindowCache" (209 : Nat) ({ cls := "WindowCache$Log", name := "told", desc := "(II)I" } : Jvm.MethodName)) ∈ lw_tbl := List.mem_append_right _ (List.mem_of_getElem? (i := 505) (by decide +kernel))
theorem q506 : (Jvm.Cond.instanceMethod ({ cls := "WindowCache$Log", name := "told", desc := "(II)I" } : Jvm.MethodName)) ∈ lw_tbl := List.mem_append_right _ (List.mem_of_getElem? (i := 506) (by decide +kernel))
theorem q507 : (Jvm.Cond.selects "WindowCache$Log" ({ cls := "WindowCache$Log", name := "told", desc := "(II)I" } : Jvm.MethodName) ({ cls := "WindowCache$Log", name := "told", desc := "(II)I" } : Jvm.MethodName)) ∈ lw_tbl := List.mem_append_right _ (List.mem_of_getElem? (i := 507) (by decide +kernel))
theorem q508 : (Jvm.Cond.code ({ cls := "WindowCache$Log", name := "told", desc := "(II)I" } : Jvm.MethodName) prog_6_method_3_code (3 : Nat) (Option.some Jvm.ClassFile.FieldType.int)) ∈ lw_tbl := List.mem_append_right _ (List.mem_of_getElem? (i := 508) (by decide +kernel))
theorem q509 : (Jvm.Cond.methodLink "WindowCacheLaw" (29 : Nat) ({ cls := "WindowCacheLaw", name := "cell", desc := "([II)I" } : Jvm.MethodName)) ∈ lw_tbl := List.mem_append_right _ (List.mem_of_getElem? (i := 509) (by decide +kernel))
theorem q510 : (Jvm.Cond.static ({ cls := "WindowCacheLaw", name := "cell", desc := "([II)I" } : Jvm.MethodName)) ∈ lw_tbl := List.mem_append_right _ (List.mem_of_getElem? (i := 510) (by decide +kernel))
theorem q511 : (Jvm.Cond.code ({ cls := "WindowCacheLaw", name := "cell", desc := "([II)I" } : Jvm.MethodName) method_2_code (2 : Nat) (Option.some Jvm.ClassFile.FieldType.int)) ∈ lw_tbl := List.mem_append_right _ (List.mem_of_getElem? (i := 511) (by decide +kernel))
theorem q512 : (Jvm.Cond.methodLink "WindowCacheLaw" (50 : Nat) ({ cls := "WindowCacheLaw", name := "put", desc := "(LWindowCache;IIII[J)I" } : Jvm.MethodName)) ∈ lw_tbl := List.mem_append_right _ (List.mem_of_getElem? (i := 512) (by decide +kernel))
theorem q513 : (Jvm.Cond.static ({ cls := "WindowCacheLaw", name := "put", desc := "(LWindowCache;IIII[J)I" } : Jvm.MethodName)) ∈ lw_tbl := List.mem_append_right _ (List.mem_of_getElem? (i := 513) (by decide +kernel))
theorem q514 : (Jvm.Cond.codeWith ({ cls := "WindowCacheLaw", name := "put", desc := "(LWindowCache;IIII[J)I" } : Jvm.MethodName) method_3_code (7 : Nat) (Option.some Jvm.ClassFile.FieldType.int) [((0 : Nat), (21 : Nat), (24 : Nat), (13 : Nat))]) ∈ lw_tbl := List.mem_append_right _ (List.mem_of_getElem? (i := 514) (by decide +kernel))
theorem q515 : (Jvm.Cond.classLink "WindowCacheLaw" (13 : Nat) "java/lang/IllegalArgumentException") ∈ lw_tbl := List.mem_append_right _ (List.mem_of_getElem? (i := 515) (by decide +kernel))
theorem q516 : (Jvm.Cond.methodLink "WindowCacheLaw" (7 : Nat) ({ cls := "WindowCache", name := "put", desc := "(IIII)Z" } : Jvm.MethodName)) ∈ lw_tbl := List.mem_append_right _ (List.mem_of_getElem? (i := 516) (by decide +kernel))
theorem q517 : (Jvm.Cond.instanceMethod ({ cls := "WindowCache", name := "put", desc := "(IIII)Z" } : Jvm.MethodName)) ∈ lw_tbl := List.mem_append_right _ (List.mem_of_getElem? (i := 517) (by decide +kernel))
theorem q518 : (Jvm.Cond.selects "WindowCache" ({ cls := "WindowCache", name := "put", desc := "(IIII)Z" } : Jvm.MethodName) ({ cls := "WindowCache", name := "put", desc := "(IIII)Z" } : Jvm.MethodName)) ∈ lw_tbl := List.mem_append_right _ (List.mem_of_getElem? (i := 518) (by decide +kernel))
theorem q519 : (Jvm.Cond.code ({ cls := "WindowCache", name := "put", desc := "(IIII)Z" } : Jvm.MethodName) prog_1_method_4_code (5 : Nat) (Option.some Jvm.ClassFile.FieldType.boolean)) ∈ lw_tbl := List.mem_append_right _ (List.mem_of_getElem? (i := 519) (by decide +kernel))
theorem q520 : (Jvm.Cond.methodLink "WindowCache" (102 : Nat) ({ cls := "WindowCache", name := "isValue", desc := "(II)Z" } : Jvm.MethodName)) ∈ lw_tbl := List.mem_append_right _ (List.mem_of_getElem? (i := 520) (by decide +kernel))
theorem q521 : (Jvm.Cond.static ({ cls := "WindowCache", name := "isValue", desc := "(II)Z" } : Jvm.MethodName)) ∈ lw_tbl := List.mem_append_right _ (List.mem_of_getElem? (i := 521) (by decide +kernel))
theorem q522 : (Jvm.Cond.code ({ cls := "WindowCache", name := "isValue", desc := "(II)Z" } : Jvm.MethodName) prog_1_method_17_code (2 : Nat) (Option.some Jvm.ClassFile.FieldType.boolean)) ∈ lw_tbl := List.mem_append_right _ (List.mem_of_getElem? (i := 522) (by decide +kernel))
theorem q523 : (Jvm.Cond.classLink "WindowCache" (106 : Nat) "java/lang/IllegalArgumentException") ∈ lw_tbl := List.mem_append_right _ (List.mem_of_getElem? (i := 523) (by decide +kernel))
theorem q524 : (Jvm.Cond.instantiable "java/lang/IllegalArgumentException" (6 : Nat)) ∈ lw_tbl := List.mem_append_right _ (List.mem_of_getElem? (i := 524) (by decide +kernel))
theorem q525 : (Jvm.Cond.castable "java/lang/IllegalArgumentException" "java/lang/IllegalArgumentException") ∈ lw_tbl := List.mem_append_right _ (List.mem_of_getElem? (i := 525) (by decide +kernel))
theorem q532 : (Jvm.Cond.selects "java/lang/IllegalArgumentException" ({ cls := "java/lang/Throwable", name := "fillInStackTrace", desc := "(I)Ljava/lang/Throwable;" } : Jvm.MethodName) ({ cls := "java/lang/Throwable", name := "fillInStackTrace", desc := "(I)Ljava/lang/Throwable;" } : Jvm.MethodName)) ∈ lw_tbl := List.mem_append_right _ (List.mem_of_getElem? (i := 532) (by decide +kernel))
theorem q533 : (Jvm.Cond.selects "java/lang/IllegalArgumentException" ({ cls := "java/lang/Throwable", name := "fillInStackTrace", desc := "()Ljava/lang/Throwable;" } : Jvm.MethodName) ({ cls := "java/lang/Throwable", name := "fillInStackTrace", desc := "()Ljava/lang/Throwable;" } : Jvm.MethodName)) ∈ lw_tbl := List.mem_append_right _ (List.mem_of_getElem? (i := 533) (by decide +kernel))
theorem q534 : (Jvm.Cond.lays "java/lang/IllegalArgumentException" "java/lang/Throwable" "cause" "Ljava/lang/Throwable;") ∈ lw_tbl := List.mem_append_right _ (List.mem_of_getElem? (i := 534) (by decide +kernel))
theorem q535 : (Jvm.Cond.lays "java/lang/Throwable" "java/lang/Throwable" "cause" "Ljava/lang/Throwable;") ∈ lw_tbl := List.mem_append_right _ (List.mem_of_getElem? (i := 535) (by decide +kernel))
theorem q536 : (Jvm.Cond.lays "java/lang/IllegalArgumentException" "java/lang/Throwable" "stackTrace" "[Ljava/lang/StackTraceElement;") ∈ lw_tbl := List.mem_append_right _ (List.mem_of_getElem? (i := 536) (by decide +kernel))
theorem q537 : (Jvm.Cond.lays "java/lang/Throwable" "java/lang/Throwable" "stackTrace" "[Ljava/lang/StackTraceElement;") ∈ lw_tbl := List.mem_append_right _ (List.mem_of_getElem? (i := 537) (by decide +kernel))
theorem q538 : (Jvm.Cond.lays "java/lang/IllegalArgumentException" "java/lang/Throwable" "suppressedExceptions" "Ljava/util/List;") ∈ lw_tbl := List.mem_append_right _ (List.mem_of_getElem? (i := 538) (by decide +kernel))
theorem q539 : (Jvm.Cond.lays "java/lang/Throwable" "java/lang/Throwable" "suppressedExceptions" "Ljava/util/List;") ∈ lw_tbl := List.mem_append_right _ (List.mem_of_getElem? (i := 539) (by decide +kernel))
theorem q540 : (Jvm.Cond.lays "java/lang/IllegalArgumentException" "java/lang/Throwable" "detailMessage" "Ljava/lang/String;") ∈ lw_tbl := List.mem_append_right _ (List.mem_of_getElem? (i := 540) (by decide +kernel))
theorem q541 : (Jvm.Cond.lays "java/lang/Throwable" "java/lang/Throwable" "detailMessage" "Ljava/lang/String;") ∈ lw_tbl := List.mem_append_right _ (List.mem_of_getElem? (i := 541) (by decide +kernel))
theorem q542 : (Jvm.Cond.lays "java/lang/IllegalArgumentException" "java/lang/Throwable" "backtrace" "Ljava/lang/Object;") ∈ lw_tbl := List.mem_append_right _ (List.mem_of_getElem? (i := 542) (by decide +kernel))
theorem q543 : (Jvm.Cond.lays "java/lang/Throwable" "java/lang/Throwable" "backtrace" "Ljava/lang/Object;") ∈ lw_tbl := List.mem_append_right _ (List.mem_of_getElem? (i := 543) (by decide +kernel))
theorem q544 : (Jvm.Cond.fieldLink "java/lang/Throwable" (198 : Nat) "java/lang/Throwable" "backtrace" "Ljava/lang/Object;") ∈ lw_tbl := List.mem_append_right _ (List.mem_of_getElem? (i := 544) (by decide +kernel))
theorem q546 : (Jvm.Cond.instanceMethod ({ cls := "java/lang/Throwable", name := "<init>", desc := "()V" } : Jvm.MethodName)) ∈ lw_tbl := List.mem_append_right _ (List.mem_of_getElem? (i := 546) (by decide +kernel))
theorem q547 : (Jvm.Cond.code ({ cls := "java/lang/Throwable", name := "<init>", desc := "()V" } : Jvm.MethodName) prog_20_method_1_code (1 : Nat) (Option.none : Option Jvm.ClassFile.FieldType)) ∈ lw_tbl := List.mem_append_right _ (List.mem_of_getElem? (i := 547) (by decide +kernel))
theorem q548 : (Jvm.Cond.methodLink "java/lang/Throwable" (1 : Nat) ({ cls := "java/lang/Object", name := "<init>", desc := "()V" } : Jvm.MethodName)) ∈ lw_tbl := List.mem_append_right _ (List.mem_of_getElem? (i := 548) (by decide +kernel))
theorem q549 : (Jvm.Cond.fieldLink "java/lang/Throwable" (13 : Nat) "java/lang/Throwable" "UNASSIGNED_STACK" "[Ljava/lang/StackTraceElement;") ∈ lw_tbl := List.mem_append_right _ (List.mem_of_getElem? (i := 549) (by decide +kernel))
theorem q550 : (Jvm.Cond.laysStatic "java/lang/Throwable" "UNASSIGNED_STACK" "[Ljava/lang/StackTraceElement;") ∈ lw_tbl := List.mem_append_right _ (List.mem_of_getElem? (i := 550) (by decide +kernel))
theorem q551 : (Jvm.Cond.fieldLink "java/lang/Throwable" (20 : Nat) "java/lang/Throwable" "SUPPRESSED_SENTINEL" "Ljava/util/List;") ∈ lw_tbl := List.mem_append_right _ (List.mem_of_getElem? (i := 551) (by decide +kernel))
theorem q552 : (Jvm.Cond.laysStatic "java/lang/Throwable" "SUPPRESSED_SENTINEL" "Ljava/util/List;") ∈ lw_tbl := List.mem_append_right _ (List.mem_of_getElem? (i := 552) (by decide +kernel))
theorem q553 : (Jvm.Cond.methodLink "java/lang/Throwable" (27 : Nat) ({ cls := "java/lang/Throwable", name := "fillInStackTrace", desc := "()Ljava/lang/Throwable;" } : Jvm.MethodName)) ∈ lw_tbl := List.mem_append_right _ (List.mem_of_getElem? (i := 553) (by decide +kernel))
theorem q554 : (Jvm.Cond.instanceMethod ({ cls := "java/lang/Throwable", name := "fillInStackTrace", desc := "()Ljava/lang/Throwable;" } : Jvm.MethodName)) ∈ lw_tbl := List.mem_append_right _ (List.mem_of_getElem? (i := 554) (by decide +kernel))
theorem q556 : (Jvm.Cond.selects "java/lang/IllegalStateException" ({ cls := "java/lang/Throwable", name := "fillInStackTrace", desc := "()Ljava/lang/Throwable;" } : Jvm.MethodName) ({ cls := "java/lang/Throwable", name := "fillInStackTrace", desc := "()Ljava/lang/Throwable;" } : Jvm.MethodName)) ∈ lw_tbl := List.mem_append_right _ (List.mem_of_getElem? (i := 556) (by decide +kernel))
theorem q558 : (Jvm.Cond.methodLink "java/lang/Throwable" (202 : Nat) ({ cls := "java/lang/Throwable", name := "fillInStackTrace", desc := "(I)Ljava/lang/Throwable;" } : Jvm.MethodName)) ∈ lw_tbl := List.mem_append_right _ (List.mem_of_getElem? (i := 558) (by decide +kernel))
theorem q560 : (Jvm.Cond.instanceMethod ({ cls := "java/lang/Throwable", name := "fillInStackTrace", desc := "(I)Ljava/lang/Throwable;" } : Jvm.MethodName)) ∈ lw_tbl := List.mem_append_right _ (List.mem_of_getElem? (i := 560) (by decide +kernel))
theorem q561 : (Jvm.Cond.instantiable "java/lang/Throwable" (6 : Nat)) ∈ lw_tbl := List.mem_append_right _ (List.mem_of_getElem? (i := 561) (by decide +kernel))
theorem q563 : (Jvm.Cond.methodLink "WindowCache" (108 : Nat) ({ cls := "java/lang/IllegalArgumentException", name := "<init>", desc := "()V" } : Jvm.MethodName)) ∈ lw_tbl := List.mem_append_right _ (List.mem_of_getElem? (i := 563) (by decide +kernel))
theorem q564 : (Jvm.Cond.instanceMethod ({ cls := "java/lang/IllegalArgumentException", name := "<init>", desc := "()V" } : Jvm.MethodName)) ∈ lw_tbl := List.mem_append_right _ (List.mem_of_getElem? (i := 564) (by decide +kernel))
theorem q565 : (Jvm.Cond.code ({ cls := "java/lang/IllegalArgumentException", name := "<init>", desc := "()V" } : Jvm.MethodName) prog_15_method_1_code (1 : Nat) (Option.none : Option Jvm.ClassFile.FieldType)) ∈ lw_tbl := List.mem_append_right _ (List.mem_of_getElem? (i := 565) (by decide +kernel))
theorem q566 : (Jvm.Cond.methodLink "java/lang/IllegalArgumentException" (1 : Nat) ({ cls := "java/lang/RuntimeException", name := "<init>", desc := "()V" } : Jvm.MethodName)) ∈ lw_tbl := List.mem_append_right _ (List.mem_of_getElem? (i := 566) (by decide +kernel))
theorem q567 : (Jvm.Cond.instanceMethod ({ cls := "java/lang/RuntimeException", name := "<init>", desc := "()V" } : Jvm.MethodName)) ∈ lw_tbl := List.mem_append_right _ (List.mem_of_getElem? (i := 567) (by decide +kernel))
theorem q568 : (Jvm.Cond.code ({ cls := "java/lang/RuntimeException", name := "<init>", desc := "()V" } : Jvm.MethodName) prog_19_method_1_code (1 : Nat) (Option.none : Option Jvm.ClassFile.FieldType)) ∈ lw_tbl := List.mem_append_right _ (List.mem_of_getElem? (i := 568) (by decide +kernel))
theorem q569 : (Jvm.Cond.methodLink "java/lang/RuntimeException" (1 : Nat) ({ cls := "java/lang/Exception", name := "<init>", desc := "()V" } : Jvm.MethodName)) ∈ lw_tbl := List.mem_append_right _ (List.mem_of_getElem? (i := 569) (by decide +kernel))
theorem q570 : (Jvm.Cond.instanceMethod ({ cls := "java/lang/Exception", name := "<init>", desc := "()V" } : Jvm.MethodName)) ∈ lw_tbl := List.mem_append_right _ (List.mem_of_getElem? (i := 570) (by decide +kernel))
theorem q571 : (Jvm.Cond.code ({ cls := "java/lang/Exception", name := "<init>", desc := "()V" } : Jvm.MethodName) prog_14_method_1_code (1 : Nat) (Option.none : Option Jvm.ClassFile.FieldType)) ∈ lw_tbl := List.mem_append_right _ (List.mem_of_getElem? (i := 571) (by decide +kernel))
theorem q572 : (Jvm.Cond.methodLink "java/lang/Exception" (1 : Nat) ({ cls := "java/lang/Throwable", name := "<init>", desc := "()V" } : Jvm.MethodName)) ∈ lw_tbl := List.mem_append_right _ (List.mem_of_getElem? (i := 572) (by decide +kernel))
theorem q573 : (Jvm.Cond.fieldLink "java/lang/Throwable" (198 : Nat) "java/lang/Throwable" "backtrace" "Ljava/lang/Object;") ∈ lw_tbl := List.mem_append_right _ (List.mem_of_getElem? (i := 573) (by decide +kernel))
theorem q574 : (Jvm.Cond.fieldLink "java/lang/Throwable" (7 : Nat) "java/lang/Throwable" "cause" "Ljava/lang/Throwable;") ∈ lw_tbl := List.mem_append_right _ (List.mem_of_getElem? (i := 574) (by decide +kernel))
theorem q575 : (Jvm.Cond.fieldLink "java/lang/Throwable" (17 : Nat) "java/lang/Throwable" "stackTrace" "[Ljava/lang/StackTraceElement;") ∈ lw_tbl := List.mem_append_right _ (List.mem_of_getElem? (i := 575) (by decide +kernel))
theorem q576 : (Jvm.Cond.fieldLink "java/lang/Throwable" (24 : Nat) "java/lang/Throwable" "suppressedExceptions" "Ljava/util/List;") ∈ lw_tbl := List.mem_append_right _ (List.mem_of_getElem? (i := 576) (by decide +kernel))
theorem q581 : (Jvm.Cond.lays "java/lang/IllegalArgumentException" "java/lang/Throwable" "depth" "I") ∈ lw_tbl := List.mem_append_right _ (List.mem_of_getElem? (i := 581) (by decide +kernel))
theorem q585 : (Jvm.Cond.methodLink "WindowCache" (109 : Nat) ({ cls := "WindowCache", name := "store", desc := "(IIII)Z" } : Jvm.MethodName)) ∈ lw_tbl := List.mem_append_right _ (List.mem_of_getElem? (i := 585) (by decide +kernel))
theorem q587 : (Jvm.Cond.instanceMethod ({ cls := "WindowCache", name := "store", desc := "(IIII)Z" } : Jvm.MethodName)) ∈ lw_tbl := List.mem_append_right _ (List.mem_of_getElem? (i := 587) (by decide +kernel))
theorem q588 : (Jvm.Cond.code ({ cls := "WindowCache", name := "store", desc := "(IIII)Z" } : Jvm.MethodName) prog_1_method_21_code (7 : Nat) (Option.some Jvm.ClassFile.FieldType.boolean)) ∈ lw_tbl := List.mem_append_right _ (List.mem_of_getElem? (i := 588) (by decide +kernel))
theorem q589 : (Jvm.Cond.methodLink "WindowCache" (229 : Nat) ({ cls := "WindowCache", name := "fill", desc := "(LWindowCache$Entry;III)V" } : Jvm.MethodName)) ∈ lw_tbl := List.mem_append_right _ (List.mem_of_getElem? (i := 589) (by decide +kernel))
theorem q591 : (Jvm.Cond.instanceMethod ({ cls := "WindowCache", name := "fill", desc := "(LWindowCache$Entry;III)V" } : Jvm.MethodName)) ∈ lw_tbl := List.mem_append_right _ (List.mem_of_getElem? (i := 591) (by decide +kernel))
theorem q592 : (Jvm.Cond.code ({ cls := "WindowCache", name := "fill", desc := "(LWindowCache$Entry;III)V" } : Jvm.MethodName) prog_1_method_22_code (5 : Nat) (Option.none : Option Jvm.ClassFile.FieldType)) ∈ lw_tbl := List.mem_append_right _ (List.mem_of_getElem? (i := 592) (by decide +kernel))
theorem q593 : (Jvm.Cond.methodLink "WindowCache" (238 : Nat) ({ cls := "WindowCache$Lives", name := "begin", desc := "(LWindowCache$Entry;I)V" } : Jvm.MethodName)) ∈ lw_tbl := List.mem_append_right _ (List.mem_of_getElem? (i := 593) (by decide +kernel))
theorem q594 : (Jvm.Cond.instanceMethod ({ cls := "WindowCache$Lives", name := "begin", desc := "(LWindowCache$Entry;I)V" } : Jvm.MethodName)) ∈ lw_tbl := List.mem_append_right _ (List.mem_of_getElem? (i := 594) (by decide +kernel))
theorem q595 : (Jvm.Cond.selects "WindowCache$Lives" ({ cls := "WindowCache$Lives", name := "begin", desc := "(LWindowCache$Entry;I)V" } : Jvm.MethodName) ({ cls := "WindowCache$Lives", name := "begin", desc := "(LWindowCache$Entry;I)V" } : Jvm.MethodName)) ∈ lw_tbl := List.mem_append_right _ (List.mem_of_getElem? (i := 595) (by decide +kernel))
theorem q596 : (Jvm.Cond.code ({ cls := "WindowCache$Lives", name := "begin", desc := "(LWindowCache$Entry;I)V" } : Jvm.MethodName) prog_5_method_2_code (4 : Nat) (Option.none : Option Jvm.ClassFile.FieldType)) ∈ lw_tbl := List.mem_append_right _ (List.mem_of_getElem? (i := 596) (by decide +kernel))
theorem q597 : (Jvm.Cond.constantLong "WindowCache$Lives" (22 : Nat) (4611686018427387904 : Int64)) ∈ lw_tbl := List.mem_append_right _ (List.mem_of_getElem? (i := 597) (by decide +kernel))
theorem q598 : (Jvm.Cond.methodLink "WindowCache$Lives" (33 : Nat) ({ cls := "WindowCache$Lives", name := "prolong", desc := "(LWindowCache$Entry;)V" } : Jvm.MethodName)) ∈ lw_tbl := List.mem_append_right _ (List.mem_of_getElem? (i := 598) (by decide +kernel))
theorem q599 : (Jvm.Cond.instantiable "WindowCache$Entry" (11 : Nat)) ∈ lw_tbl := List.mem_append_right _ (List.mem_of_getElem? (i := 599) (by decide +kernel))
theorem q600 : (Jvm.Cond.methodLink "WindowCache" (233 : Nat) ({ cls := "WindowCache$Entry", name := "<init>", desc := "(I)V" } : Jvm.MethodName)) ∈ lw_tbl := List.mem_append_right _ (List.mem_of_getElem? (i := 600) (by decide +kernel))
theorem q601 : (Jvm.Cond.instanceMethod ({ cls := "WindowCache$Entry", name := "<init>", desc := "(I)V" } : Jvm.MethodName)) ∈ lw_tbl := List.mem_append_right _ (List.mem_of_getElem? (i := 601) (by decide +kernel))
theorem q602 : (Jvm.Cond.code ({ cls := "WindowCache$Entry", name := "<init>", desc := "(I)V" } : Jvm.MethodName) prog_4_method_1_code (2 : Nat) (Option.none : Option Jvm.ClassFile.FieldType)) ∈ lw_tbl := List.mem_append_right _ (List.mem_of_getElem? (i := 602) (by decide +kernel))
theorem q603 : (Jvm.Cond.methodLink "WindowCache$Entry" (1 : Nat) ({ cls := "java/lang/Object", name := "<init>", desc := "()V" } : Jvm.MethodName)) ∈ lw_tbl := List.mem_append_right _ (List.mem_of_getElem? (i := 603) (by decide +kernel))
theorem q604 : (Jvm.Cond.fieldLink "WindowCache$Entry" (7 : Nat) "WindowCache$Entry" "key" "I") ∈ lw_tbl := List.mem_append_right _ (List.mem_of_getElem? (i := 604) (by decide +kernel))
theorem q605 : (Jvm.Cond.fieldLink "WindowCache$Log" (25 : Nat) "WindowCache$Entry" "key" "I") ∈ lw_tbl := List.mem_append_right _ (List.mem_of_getElem? (i := 605) (by decide +kernel))
theorem q606 : (Jvm.Cond.fieldLink "WindowCache$Room" (38 : Nat) "WindowCache$Entry" "key" "I") ∈ lw_tbl := List.mem_append_right _ (List.mem_of_getElem? (i := 606) (by decide +kernel))
theorem q607 : (Jvm.Cond.fieldLink "WindowCache" (241 : Nat) "WindowCache$Entry" "key" "I") ∈ lw_tbl := List.mem_append_right _ (List.mem_of_getElem? (i := 607) (by decide +kernel))
theorem q608 : (Jvm.Cond.fieldLink "WindowCache$Log" (30 : Nat) "WindowCache$Entry" "value" "I") ∈ lw_tbl := List.mem_append_right _ (List.mem_of_getElem? (i := 608) (by decide +kernel))
theorem q609 : (Jvm.Cond.fieldLink "WindowCache" (124 : Nat) "WindowCache$Entry" "value" "I") ∈ lw_tbl := List.mem_append_right _ (List.mem_of_getElem? (i := 609) (by decide +kernel))
theorem q610 : (Jvm.Cond.fieldLink "WindowCache$Room" (34 : Nat) "WindowCache$Entry" "weight" "I") ∈ lw_tbl := List.mem_append_right _ (List.mem_of_getElem? (i := 610) (by decide +kernel))
theorem q611 : (Jvm.Cond.fieldLink "WindowCache$Rooms" (63 : Nat) "WindowCache$Entry" "weight" "I") ∈ lw_tbl := List.mem_append_right _ (List.mem_of_getElem? (i := 611) (by decide +kernel))
theorem q612 : (Jvm.Cond.fieldLink "WindowCache" (237 : Nat) "WindowCache$Entry" "weight" "I") ∈ lw_tbl := List.mem_append_right _ (List.mem_of_getElem? (i := 612) (by decide +kernel))
theorem q613 : (Jvm.Cond.fieldLink "WindowCache" (132 : Nat) "WindowCache$Entry" "edition" "I") ∈ lw_tbl := List.mem_append_right _ (List.mem_of_getElem? (i := 613) (by decide +kernel))
end
section
theorem q614 : (Jvm.Cond.fieldLink "WindowCache$Lives" (24 : Nat) "WindowCache$Entry" "fixedEnd" "J") ∈ lw_tbl := List.mem_append_right _ (List.mem_of_getElem? (i := 614) (by decide +kernel))
theorem q615 : (Jvm.Cond.fieldLink "WindowCache$Lives" (43 : Nat) "WindowCache$Entry" "end" "J") ∈ lw_tbl := List.mem_append_right _ (List.mem_of_getElem? (i := 615) (by decide +kernel))
theorem q616 : (Jvm.Cond.fieldLink "WindowCache$Room" (41 : Nat) "WindowCache$Entry" "end" "J") ∈ lw_tbl := List.mem_append_right _ (List.mem_of_getElem? (i := 616) (by decide +kernel))
theorem q617 : (Jvm.Cond.fieldLink "WindowCache$Lives" (29 : Nat) "WindowCache$Entry" "livesByTouch" "Z") ∈ lw_tbl := List.mem_append_right _ (List.mem_of_getElem? (i := 617) (by decide +kernel))
theorem q618 : (Jvm.Cond.fieldLink "WindowCache" (244 : Nat) "WindowCache$Entry" "gone" "Z") ∈ lw_tbl := List.mem_append_right _ (List.mem_of_getElem? (i := 618) (by decide +kernel))
theorem q619 : (Jvm.Cond.fieldLink "WindowCache$Room" (9 : Nat) "WindowCache$Entry" "room" "LWindowCache$Room;") ∈ lw_tbl := List.mem_append_right _ (List.mem_of_getElem? (i := 619) (by decide +kernel))
theorem q620 : (Jvm.Cond.fieldLink "WindowCache$Rooms" (40 : Nat) "WindowCache$Entry" "room" "LWindowCache$Room;") ∈ lw_tbl := List.mem_append_right _ (List.mem_of_getElem? (i := 620) (by decide +kernel))
theorem q621 : (Jvm.Cond.fieldLink "WindowCache" (234 : Nat) "WindowCache$Entry" "room" "LWindowCache$Room;") ∈ lw_tbl := List.mem_append_right _ (List.mem_of_getElem? (i := 621) (by decide +kernel))
theorem q622 : (Jvm.Cond.fieldLink "WindowCache$Room" (21 : Nat) "WindowCache$Entry" "earlier" "LWindowCache$Entry;") ∈ lw_tbl := List.mem_append_right _ (List.mem_of_getElem? (i := 622) (by decide +kernel))
theorem q623 : (Jvm.Cond.fieldLink "WindowCache$Room" (24 : Nat) "WindowCache$Entry" "later" "LWindowCache$Entry;") ∈ lw_tbl := List.mem_append_right _ (List.mem_of_getElem? (i := 623) (by decide +kernel))
theorem q624 : (Jvm.Cond.fieldLink "WindowCache" (302 : Nat) "WindowCache$Entry" "later" "LWindowCache$Entry;") ∈ lw_tbl := List.mem_append_right _ (List.mem_of_getElem? (i := 624) (by decide +kernel))
theorem q625 : (Jvm.Cond.laysFinal "WindowCache$Entry" "WindowCache$Entry" "key" "I") ∈ lw_tbl := List.mem_append_right _ (List.mem_of_getElem? (i := 625) (by decide +kernel))
theorem q627 : (Jvm.Cond.lays "WindowCache$Entry" "WindowCache$Entry" "value" "I") ∈ lw_tbl := List.mem_append_right _ (List.mem_of_getElem? (i := 627) (by decide +kernel))
theorem q629 : (Jvm.Cond.lays "WindowCache$Entry" "WindowCache$Entry" "weight" "I") ∈ lw_tbl := List.mem_append_right _ (List.mem_of_getElem? (i := 629) (by decide +kernel))
theorem q631 : (Jvm.Cond.lays "WindowCache$Entry" "WindowCache$Entry" "edition" "I") ∈ lw_tbl := List.mem_append_right _ (List.mem_of_getElem? (i := 631) (by decide +kernel))
theorem q633 : (Jvm.Cond.lays "WindowCache$Entry" "WindowCache$Entry" "fixedEnd" "J") ∈ lw_tbl := List.mem_append_right _ (List.mem_of_getElem? (i := 633) (by decide +kernel))
theorem q635 : (Jvm.Cond.lays "WindowCache$Entry" "WindowCache$Entry" "end" "J") ∈ lw_tbl := List.mem_append_right _ (List.mem_of_getElem? (i := 635) (by decide +kernel))
theorem q637 : (Jvm.Cond.lays "WindowCache$Entry" "WindowCache$Entry" "livesByTouch" "Z") ∈ lw_tbl := List.mem_append_right _ (List.mem_of_getElem? (i := 637) (by decide +kernel))
theorem q639 : (Jvm.Cond.lays "WindowCache$Entry" "WindowCache$Entry" "gone" "Z") ∈ lw_tbl := List.mem_append_right _ (List.mem_of_getElem? (i := 639) (by decide +kernel))
theorem q641 : (Jvm.Cond.lays "WindowCache$Entry" "WindowCache$Entry" "room" "LWindowCache$Room;") ∈ lw_tbl := List.mem_append_right _ (List.mem_of_getElem? (i := 641) (by decide +kernel))
theorem q643 : (Jvm.Cond.lays "WindowCache$Entry" "WindowCache$Entry" "earlier" "LWindowCache$Entry;") ∈ lw_tbl := List.mem_append_right _ (List.mem_of_getElem? (i := 643) (by decide +kernel))
theorem q645 : (Jvm.Cond.lays "WindowCache$Entry" "WindowCache$Entry" "later" "LWindowCache$Entry;") ∈ lw_tbl := List.mem_append_right _ (List.mem_of_getElem? (i := 645) (by decide +kernel))
theorem q648 : (Jvm.Cond.methodLink "WindowCacheLaw" (62 : Nat) ({ cls := "WindowCacheLaw", name := "load", desc := "(LWindowCache;I[J)I" } : Jvm.MethodName)) ∈ lw_tbl := List.mem_append_right _ (List.mem_of_getElem? (i := 648) (by decide +kernel))
theorem q649 : (Jvm.Cond.static ({ cls := "WindowCacheLaw", name := "load", desc := "(LWindowCache;I[J)I" } : Jvm.MethodName)) ∈ lw_tbl := List.mem_append_right _ (List.mem_of_getElem? (i := 649) (by decide +kernel))
theorem q650 : (Jvm.Cond.codeWith ({ cls := "WindowCacheLaw", name := "load", desc := "(LWindowCache;I[J)I" } : Jvm.MethodName) method_4_code (4 : Nat) (Option.some Jvm.ClassFile.FieldType.int) [((0 : Nat), (9 : Nat), (12 : Nat), (13 : Nat)), ((0 : Nat), (9 : Nat), (15 : Nat), (19 : Nat))]) ∈ lw_tbl := List.mem_append_right _ (List.mem_of_getElem? (i := 650) (by decide +kernel))
theorem q651 : (Jvm.Cond.classLink "WindowCacheLaw" (19 : Nat) "java/lang/IllegalStateException") ∈ lw_tbl := List.mem_append_right _ (List.mem_of_getElem? (i := 651) (by decide +kernel))
theorem q652 : (Jvm.Cond.methodLink "WindowCacheLaw" (15 : Nat) ({ cls := "WindowCache", name := "load", desc := "(I)I" } : Jvm.MethodName)) ∈ lw_tbl := List.mem_append_right _ (List.mem_of_getElem? (i := 652) (by decide +kernel))
theorem q653 : (Jvm.Cond.instanceMethod ({ cls := "WindowCache", name := "load", desc := "(I)I" } : Jvm.MethodName)) ∈ lw_tbl := List.mem_append_right _ (List.mem_of_getElem? (i := 653) (by decide +kernel))
theorem q654 : (Jvm.Cond.selects "WindowCache" ({ cls := "WindowCache", name := "load", desc := "(I)I" } : Jvm.MethodName) ({ cls := "WindowCache", name := "load", desc := "(I)I" } : Jvm.MethodName)) ∈ lw_tbl := List.mem_append_right _ (List.mem_of_getElem? (i := 654) (by decide +kernel))
theorem q655 : (Jvm.Cond.code ({ cls := "WindowCache", name := "load", desc := "(I)I" } : Jvm.MethodName) prog_1_method_6_code (3 : Nat) (Option.some Jvm.ClassFile.FieldType.int)) ∈ lw_tbl := List.mem_append_right _ (List.mem_of_getElem? (i := 655) (by decide +kernel))
theorem q656 : (Jvm.Cond.classLink "WindowCache" (127 : Nat) "java/lang/IllegalStateException") ∈ lw_tbl := List.mem_append_right _ (List.mem_of_getElem? (i := 656) (by decide +kernel))
theorem q657 : (Jvm.Cond.instantiable "java/lang/IllegalStateException" (6 : Nat)) ∈ lw_tbl := List.mem_append_right _ (List.mem_of_getElem? (i := 657) (by decide +kernel))
theorem q658 : (Jvm.Cond.castable "java/lang/IllegalStateException" "java/lang/IllegalStateException") ∈ lw_tbl := List.mem_append_right _ (List.mem_of_getElem? (i := 658) (by decide +kernel))
theorem q659 : (Jvm.Cond.selects "java/lang/IllegalStateException" ({ cls := "java/lang/Throwable", name := "fillInStackTrace", desc := "(I)Ljava/lang/Throwable;" } : Jvm.MethodName) ({ cls := "java/lang/Throwable", name := "fillInStackTrace", desc := "(I)Ljava/lang/Throwable;" } : Jvm.MethodName)) ∈ lw_tbl := List.mem_append_right _ (List.mem_of_getElem? (i := 659) (by decide +kernel))
theorem q660 : (Jvm.Cond.lays "java/lang/IllegalStateException" "java/lang/Throwable" "cause" "Ljava/lang/Throwable;") ∈ lw_tbl := List.mem_append_right _ (List.mem_of_getElem? (i := 660) (by decide +kernel))
theorem q661 : (Jvm.Cond.lays "java/lang/IllegalStateException" "java/lang/Throwable" "stackTrace" "[Ljava/lang/StackTraceElement;") ∈ lw_tbl := List.mem_append_right _ (List.mem_of_getElem? (i := 661) (by decide +kernel))
theorem q662 : (Jvm.Cond.lays "java/lang/IllegalStateException" "java/lang/Throwable" "suppressedExceptions" "Ljava/util/List;") ∈ lw_tbl := List.mem_append_right _ (List.mem_of_getElem? (i := 662) (by decide +kernel))
theorem q663 : (Jvm.Cond.lays "java/lang/IllegalStateException" "java/lang/Throwable" "detailMessage" "Ljava/lang/String;") ∈ lw_tbl := List.mem_append_right _ (List.mem_of_getElem? (i := 663) (by decide +kernel))
theorem q664 : (Jvm.Cond.lays "java/lang/IllegalStateException" "java/lang/Throwable" "backtrace" "Ljava/lang/Object;") ∈ lw_tbl := List.mem_append_right _ (List.mem_of_getElem? (i := 664) (by decide +kernel))
theorem q665 : (Jvm.Cond.methodLink "WindowCache" (129 : Nat) ({ cls := "java/lang/IllegalStateException", name := "<init>", desc := "()V" } : Jvm.MethodName)) ∈ lw_tbl := List.mem_append_right _ (List.mem_of_getElem? (i := 665) (by decide +kernel))
theorem q666 : (Jvm.Cond.instanceMethod ({ cls := "java/lang/IllegalStateException", name := "<init>", desc := "()V" } : Jvm.MethodName)) ∈ lw_tbl := List.mem_append_right _ (List.mem_of_getElem? (i := 666) (by decide +kernel))
theorem q667 : (Jvm.Cond.code ({ cls := "java/lang/IllegalStateException", name := "<init>", desc := "()V" } : Jvm.MethodName) prog_16_method_1_code (1 : Nat) (Option.none : Option Jvm.ClassFile.FieldType)) ∈ lw_tbl := List.mem_append_right _ (List.mem_of_getElem? (i := 667) (by decide +kernel))
theorem q668 : (Jvm.Cond.methodLink "java/lang/IllegalStateException" (1 : Nat) ({ cls := "java/lang/RuntimeException", name := "<init>", desc := "()V" } : Jvm.MethodName)) ∈ lw_tbl := List.mem_append_right _ (List.mem_of_getElem? (i := 668) (by decide +kernel))
theorem q669 : (Jvm.Cond.lays "java/lang/IllegalStateException" "java/lang/Throwable" "depth" "I") ∈ lw_tbl := List.mem_append_right _ (List.mem_of_getElem? (i := 669) (by decide +kernel))
theorem q671 : (Jvm.Cond.methodLink "WindowCacheLaw" (70 : Nat) ({ cls := "WindowCacheLaw", name := "finish", desc := "(LWindowCache;III[J)I" } : Jvm.MethodName)) ∈ lw_tbl := List.mem_append_right _ (List.mem_of_getElem? (i := 671) (by decide +kernel))
theorem q672 : (Jvm.Cond.static ({ cls := "WindowCacheLaw", name := "finish", desc := "(LWindowCache;III[J)I" } : Jvm.MethodName)) ∈ lw_tbl := List.mem_append_right _ (List.mem_of_getElem? (i := 672) (by decide +kernel))
theorem q673 : (Jvm.Cond.codeWith ({ cls := "WindowCacheLaw", name := "finish", desc := "(LWindowCache;III[J)I" } : Jvm.MethodName) method_5_code (6 : Nat) (Option.some Jvm.ClassFile.FieldType.int) [((0 : Nat), (19 : Nat), (22 : Nat), (19 : Nat)), ((0 : Nat), (19 : Nat), (26 : Nat), (13 : Nat))]) ∈ lw_tbl := List.mem_append_right _ (List.mem_of_getElem? (i := 673) (by decide +kernel))
theorem q674 : (Jvm.Cond.methodLink "WindowCacheLaw" (21 : Nat) ({ cls := "WindowCache", name := "finish", desc := "(III)Z" } : Jvm.MethodName)) ∈ lw_tbl := List.mem_append_right _ (List.mem_of_getElem? (i := 674) (by decide +kernel))
theorem q675 : (Jvm.Cond.instanceMethod ({ cls := "WindowCache", name := "finish", desc := "(III)Z" } : Jvm.MethodName)) ∈ lw_tbl := List.mem_append_right _ (List.mem_of_getElem? (i := 675) (by decide +kernel))
theorem q676 : (Jvm.Cond.selects "WindowCache" ({ cls := "WindowCache", name := "finish", desc := "(III)Z" } : Jvm.MethodName) ({ cls := "WindowCache", name := "finish", desc := "(III)Z" } : Jvm.MethodName)) ∈ lw_tbl := List.mem_append_right _ (List.mem_of_getElem? (i := 676) (by decide +kernel))
theorem q677 : (Jvm.Cond.code ({ cls := "WindowCache", name := "finish", desc := "(III)Z" } : Jvm.MethodName) prog_1_method_8_code (5 : Nat) (Option.some Jvm.ClassFile.FieldType.boolean)) ∈ lw_tbl := List.mem_append_right _ (List.mem_of_getElem? (i := 677) (by decide +kernel))
theorem q678 : (Jvm.Cond.methodLink "WindowCache" (138 : Nat) ({ cls := "WindowCache", name := "isWelcome", desc := "(LWindowCache$Way;I)Z" } : Jvm.MethodName)) ∈ lw_tbl := List.mem_append_right _ (List.mem_of_getElem? (i := 678) (by decide +kernel))
theorem q680 : (Jvm.Cond.instanceMethod ({ cls := "WindowCache", name := "isWelcome", desc := "(LWindowCache$Way;I)Z" } : Jvm.MethodName)) ∈ lw_tbl := List.mem_append_right _ (List.mem_of_getElem? (i := 680) (by decide +kernel))
theorem q681 : (Jvm.Cond.code ({ cls := "WindowCache", name := "isWelcome", desc := "(LWindowCache$Way;I)Z" } : Jvm.MethodName) prog_1_method_20_code (4 : Nat) (Option.some Jvm.ClassFile.FieldType.boolean)) ∈ lw_tbl := List.mem_append_right _ (List.mem_of_getElem? (i := 681) (by decide +kernel))
theorem q682 : (Jvm.Cond.methodLink "WindowCacheLaw" (74 : Nat) ({ cls := "WindowCacheLaw", name := "fail", desc := "(LWindowCache;I)I" } : Jvm.MethodName)) ∈ lw_tbl := List.mem_append_right _ (List.mem_of_getElem? (i := 682) (by decide +kernel))
theorem q683 : (Jvm.Cond.static ({ cls := "WindowCacheLaw", name := "fail", desc := "(LWindowCache;I)I" } : Jvm.MethodName)) ∈ lw_tbl := List.mem_append_right _ (List.mem_of_getElem? (i := 683) (by decide +kernel))
theorem q684 : (Jvm.Cond.codeWith ({ cls := "WindowCacheLaw", name := "fail", desc := "(LWindowCache;I)I" } : Jvm.MethodName) method_6_code (3 : Nat) (Option.some Jvm.ClassFile.FieldType.int) [((0 : Nat), (5 : Nat), (8 : Nat), (19 : Nat))]) ∈ lw_tbl := List.mem_append_right _ (List.mem_of_getElem? (i := 684) (by decide +kernel))
theorem q685 : (Jvm.Cond.methodLink "WindowCacheLaw" (25 : Nat) ({ cls := "WindowCache", name := "fail", desc := "(I)V" } : Jvm.MethodName)) ∈ lw_tbl := List.mem_append_right _ (List.mem_of_getElem? (i := 685) (by decide +kernel))
theorem q686 : (Jvm.Cond.instanceMethod ({ cls := "WindowCache", name := "fail", desc := "(I)V" } : Jvm.MethodName)) ∈ lw_tbl := List.mem_append_right _ (List.mem_of_getElem? (i := 686) (by decide +kernel))
theorem q687 : (Jvm.Cond.selects "WindowCache" ({ cls := "WindowCache", name := "fail", desc := "(I)V" } : Jvm.MethodName) ({ cls := "WindowCache", name := "fail", desc := "(I)V" } : Jvm.MethodName)) ∈ lw_tbl := List.mem_append_right _ (List.mem_of_getElem? (i := 687) (by decide +kernel))
theorem q688 : (Jvm.Cond.code ({ cls := "WindowCache", name := "fail", desc := "(I)V" } : Jvm.MethodName) prog_1_method_9_code (2 : Nat) (Option.none : Option Jvm.ClassFile.FieldType)) ∈ lw_tbl := List.mem_append_right _ (List.mem_of_getElem? (i := 688) (by decide +kernel))
theorem q689 : (Jvm.Cond.classLink "WindowCacheLaw" (38 : Nat) "WindowCacheModel") ∈ lw_tbl := List.mem_append_right _ (List.mem_of_getElem? (i := 689) (by decide +kernel))
theorem q690 : (Jvm.Cond.instantiable "WindowCacheModel" (49 : Nat)) ∈ lw_tbl := List.mem_append_right _ (List.mem_of_getElem? (i := 690) (by decide +kernel))
theorem q691 : (Jvm.Cond.methodLink "WindowCacheLaw" (40 : Nat) ({ cls := "WindowCacheModel", name := "<init>", desc := "(III)V" } : Jvm.MethodName)) ∈ lw_tbl := List.mem_append_right _ (List.mem_of_getElem? (i := 691) (by decide +kernel))
theorem q692 : (Jvm.Cond.instanceMethod ({ cls := "WindowCacheModel", name := "<init>", desc := "(III)V" } : Jvm.MethodName)) ∈ lw_tbl := List.mem_append_right _ (List.mem_of_getElem? (i := 692) (by decide +kernel))
theorem q693 : (Jvm.Cond.code ({ cls := "WindowCacheModel", name := "<init>", desc := "(III)V" } : Jvm.MethodName) prog_13_method_1_code (6 : Nat) (Option.none : Option Jvm.ClassFile.FieldType)) ∈ lw_tbl := List.mem_append_right _ (List.mem_of_getElem? (i := 693) (by decide +kernel))
theorem q694 : (Jvm.Cond.methodLink "WindowCacheModel" (1 : Nat) ({ cls := "java/lang/Object", name := "<init>", desc := "()V" } : Jvm.MethodName)) ∈ lw_tbl := List.mem_append_right _ (List.mem_of_getElem? (i := 694) (by decide +kernel))
theorem q695 : (Jvm.Cond.constant "WindowCacheModel" (69 : Nat) (32768 : Int32)) ∈ lw_tbl := List.mem_append_right _ (List.mem_of_getElem? (i := 695) (by decide +kernel))
theorem q696 : (Jvm.Cond.methodLink "WindowCacheModel" (108 : Nat) ({ cls := "WindowCacheModel", name := "firstStep", desc := "()I" } : Jvm.MethodName)) ∈ lw_tbl := List.mem_append_right _ (List.mem_of_getElem? (i := 696) (by decide +kernel))
theorem q698 : (Jvm.Cond.instanceMethod ({ cls := "WindowCacheModel", name := "firstStep", desc := "()I" } : Jvm.MethodName)) ∈ lw_tbl := List.mem_append_right _ (List.mem_of_getElem? (i := 698) (by decide +kernel))
theorem q699 : (Jvm.Cond.code ({ cls := "WindowCacheModel", name := "firstStep", desc := "()I" } : Jvm.MethodName) prog_13_method_3_code (1 : Nat) (Option.some Jvm.ClassFile.FieldType.int)) ∈ lw_tbl := List.mem_append_right _ (List.mem_of_getElem? (i := 699) (by decide +kernel))
theorem q700 : (Jvm.Cond.constant "WindowCacheModel" (115 : Nat) (-1640531527 : Int32)) ∈ lw_tbl := List.mem_append_right _ (List.mem_of_getElem? (i := 700) (by decide +kernel))
theorem q701 : (Jvm.Cond.constant "WindowCacheModel" (116 : Nat) (-2048144777 : Int32)) ∈ lw_tbl := List.mem_append_right _ (List.mem_of_getElem? (i := 701) (by decide +kernel))
theorem q702 : (Jvm.Cond.constant "WindowCacheModel" (117 : Nat) (-1028477379 : Int32)) ∈ lw_tbl := List.mem_append_right _ (List.mem_of_getElem? (i := 702) (by decide +kernel))
theorem q703 : (Jvm.Cond.constant "WindowCacheModel" (118 : Nat) (668265263 : Int32)) ∈ lw_tbl := List.mem_append_right _ (List.mem_of_getElem? (i := 703) (by decide +kernel))
theorem q704 : (Jvm.Cond.fieldLink "WindowCacheModel" (119 : Nat) "WindowCacheModel" "thrown" "I") ∈ lw_tbl := List.mem_append_right _ (List.mem_of_getElem? (i := 704) (by decide +kernel))
theorem q705 : (Jvm.Cond.fieldLink "WindowCacheModel" (93 : Nat) "WindowCacheModel" "max" "I") ∈ lw_tbl := List.mem_append_right _ (List.mem_of_getElem? (i := 705) (by decide +kernel))
theorem q706 : (Jvm.Cond.fieldLink "WindowCacheModel" (96 : Nat) "WindowCacheModel" "write" "I") ∈ lw_tbl := List.mem_append_right _ (List.mem_of_getElem? (i := 706) (by decide +kernel))
theorem q707 : (Jvm.Cond.fieldLink "WindowCacheModel" (99 : Nat) "WindowCacheModel" "touch" "I") ∈ lw_tbl := List.mem_append_right _ (List.mem_of_getElem? (i := 707) (by decide +kernel))
theorem q708 : (Jvm.Cond.fieldLink "WindowCacheModel" (102 : Nat) "WindowCacheModel" "size" "I") ∈ lw_tbl := List.mem_append_right _ (List.mem_of_getElem? (i := 708) (by decide +kernel))
theorem q709 : (Jvm.Cond.fieldLink "WindowCacheModel" (128 : Nat) "WindowCacheModel" "time" "J") ∈ lw_tbl := List.mem_append_right _ (List.mem_of_getElem? (i := 709) (by decide +kernel))
theorem q710 : (Jvm.Cond.fieldLink "WindowCacheModel" (7 : Nat) "WindowCacheModel" "entryOf" "[I") ∈ lw_tbl := List.mem_append_right _ (List.mem_of_getElem? (i := 710) (by decide +kernel))
theorem q711 : (Jvm.Cond.fieldLink "WindowCacheModel" (13 : Nat) "WindowCacheModel" "way" "[I") ∈ lw_tbl := List.mem_append_right _ (List.mem_of_getElem? (i := 711) (by decide +kernel))
theorem q712 : (Jvm.Cond.fieldLink "WindowCacheModel" (16 : Nat) "WindowCacheModel" "wayEntry" "[I") ∈ lw_tbl := List.mem_append_right _ (List.mem_of_getElem? (i := 712) (by decide +kernel))
theorem q713 : (Jvm.Cond.fieldLink "WindowCacheModel" (19 : Nat) "WindowCacheModel" "wayPuts" "[I") ∈ lw_tbl := List.mem_append_right _ (List.mem_of_getElem? (i := 713) (by decide +kernel))
theorem q714 : (Jvm.Cond.fieldLink "WindowCacheModel" (143 : Nat) "WindowCacheModel" "entries" "I") ∈ lw_tbl := List.mem_append_right _ (List.mem_of_getElem? (i := 714) (by decide +kernel))
theorem q715 : (Jvm.Cond.fieldLink "WindowCacheModel" (22 : Nat) "WindowCacheModel" "key" "[I") ∈ lw_tbl := List.mem_append_right _ (List.mem_of_getElem? (i := 715) (by decide +kernel))
theorem q716 : (Jvm.Cond.fieldLink "WindowCacheModel" (25 : Nat) "WindowCacheModel" "value" "[I") ∈ lw_tbl := List.mem_append_right _ (List.mem_of_getElem? (i := 716) (by decide +kernel))
theorem q717 : (Jvm.Cond.fieldLink "WindowCacheModel" (28 : Nat) "WindowCacheModel" "weight" "[I") ∈ lw_tbl := List.mem_append_right _ (List.mem_of_getElem? (i := 717) (by decide +kernel))
theorem q718 : (Jvm.Cond.fieldLink "WindowCacheModel" (31 : Nat) "WindowCacheModel" "own" "[I") ∈ lw_tbl := List.mem_append_right _ (List.mem_of_getElem? (i := 718) (by decide +kernel))
theorem q719 : (Jvm.Cond.fieldLink "WindowCacheModel" (34 : Nat) "WindowCacheModel" "room" "[I") ∈ lw_tbl := List.mem_append_right _ (List.mem_of_getElem? (i := 719) (by decide +kernel))
theorem q720 : (Jvm.Cond.fieldLink "WindowCacheModel" (37 : Nat) "WindowCacheModel" "puts" "[I") ∈ lw_tbl := List.mem_append_right _ (List.mem_of_getElem? (i := 720) (by decide +kernel))
theorem q721 : (Jvm.Cond.fieldLink "WindowCacheModel" (40 : Nat) "WindowCacheModel" "putAt" "[J") ∈ lw_tbl := List.mem_append_right _ (List.mem_of_getElem? (i := 721) (by decide +kernel))
theorem q722 : (Jvm.Cond.fieldLink "WindowCacheModel" (44 : Nat) "WindowCacheModel" "gotAt" "[J") ∈ lw_tbl := List.mem_append_right _ (List.mem_of_getElem? (i := 722) (by decide +kernel))
theorem q723 : (Jvm.Cond.fieldLink "WindowCacheModel" (47 : Nat) "WindowCacheModel" "stamp" "[J") ∈ lw_tbl := List.mem_append_right _ (List.mem_of_getElem? (i := 723) (by decide +kernel))
theorem q724 : (Jvm.Cond.fieldLink "WindowCacheModel" (50 : Nat) "WindowCacheModel" "there" "[Z") ∈ lw_tbl := List.mem_append_right _ (List.mem_of_getElem? (i := 724) (by decide +kernel))
theorem q725 : (Jvm.Cond.fieldLink "WindowCacheModel" (54 : Nat) "WindowCacheModel" "candidate" "[Z") ∈ lw_tbl := List.mem_append_right _ (List.mem_of_getElem? (i := 725) (by decide +kernel))
theorem q726 : (Jvm.Cond.fieldLink "WindowCacheModel" (150 : Nat) "WindowCacheModel" "stamps" "J") ∈ lw_tbl := List.mem_append_right _ (List.mem_of_getElem? (i := 726) (by decide +kernel))
theorem q727 : (Jvm.Cond.fieldLink "WindowCacheModel" (57 : Nat) "WindowCacheModel" "notes" "[I") ∈ lw_tbl := List.mem_append_right _ (List.mem_of_getElem? (i := 727) (by decide +kernel))
theorem q728 : (Jvm.Cond.fieldLink "WindowCacheModel" (60 : Nat) "WindowCacheModel" "noted" "[I") ∈ lw_tbl := List.mem_append_right _ (List.mem_of_getElem? (i := 728) (by decide +kernel))
theorem q729 : (Jvm.Cond.fieldLink "WindowCacheModel" (63 : Nat) "WindowCacheModel" "taskKind" "[I") ∈ lw_tbl := List.mem_append_right _ (List.mem_of_getElem? (i := 729) (by decide +kernel))
theorem q730 : (Jvm.Cond.fieldLink "WindowCacheModel" (66 : Nat) "WindowCacheModel" "taskEntry" "[I") ∈ lw_tbl := List.mem_append_right _ (List.mem_of_getElem? (i := 730) (by decide +kernel))
theorem q731 : (Jvm.Cond.fieldLink "WindowCacheModel" (169 : Nat) "WindowCacheModel" "tasks" "I") ∈ lw_tbl := List.mem_append_right _ (List.mem_of_getElem? (i := 731) (by decide +kernel))
theorem q732 : (Jvm.Cond.fieldLink "WindowCacheModel" (242 : Nat) "WindowCacheModel" "lost" "I") ∈ lw_tbl := List.mem_append_right _ (List.mem_of_getElem? (i := 732) (by decide +kernel))
theorem q733 : (Jvm.Cond.fieldLink "WindowCacheModel" (140 : Nat) "WindowCacheModel" "added" "I") ∈ lw_tbl := List.mem_append_right _ (List.mem_of_getElem? (i := 733) (by decide +kernel))
theorem q734 : (Jvm.Cond.fieldLink "WindowCacheModel" (70 : Nat) "WindowCacheModel" "counts" "[I") ∈ lw_tbl := List.mem_append_right _ (List.mem_of_getElem? (i := 734) (by decide +kernel))
theorem q735 : (Jvm.Cond.fieldLink "WindowCacheModel" (73 : Nat) "WindowCacheModel" "odd" "[I") ∈ lw_tbl := List.mem_append_right _ (List.mem_of_getElem? (i := 735) (by decide +kernel))
theorem q736 : (Jvm.Cond.fieldLink "WindowCacheModel" (105 : Nat) "WindowCacheModel" "window" "I") ∈ lw_tbl := List.mem_append_right _ (List.mem_of_getElem? (i := 736) (by decide +kernel))
theorem q737 : (Jvm.Cond.fieldLink "WindowCacheModel" (112 : Nat) "WindowCacheModel" "step" "I") ∈ lw_tbl := List.mem_append_right _ (List.mem_of_getElem? (i := 737) (by decide +kernel))
theorem q738 : (Jvm.Cond.fieldLink "WindowCacheModel" (215 : Nat) "WindowCacheModel" "rate" "I") ∈ lw_tbl := List.mem_append_right _ (List.mem_of_getElem? (i := 738) (by decide +kernel))
theorem q739 : (Jvm.Cond.fieldLink "WindowCacheModel" (76 : Nat) "WindowCacheModel" "draw" "I") ∈ lw_tbl := List.mem_append_right _ (List.mem_of_getElem? (i := 739) (by decide +kernel))
theorem q740 : (Jvm.Cond.fieldLink "WindowCacheModel" (80 : Nat) "WindowCacheModel" "up" "Z") ∈ lw_tbl := List.mem_append_right _ (List.mem_of_getElem? (i := 740) (by decide +kernel))
theorem q741 : (Jvm.Cond.fieldLink "WindowCacheModel" (239 : Nat) "WindowCacheModel" "hits" "I") ∈ lw_tbl := List.mem_append_right _ (List.mem_of_getElem? (i := 741) (by decide +kernel))
theorem q742 : (Jvm.Cond.fieldLink "WindowCacheModel" (236 : Nat) "WindowCacheModel" "misses" "I") ∈ lw_tbl := List.mem_append_right _ (List.mem_of_getElem? (i := 742) (by decide +kernel))
theorem q743 : (Jvm.Cond.fieldLink "WindowCacheModel" (207 : Nat) "WindowCacheModel" "newHits" "I") ∈ lw_tbl := List.mem_append_right _ (List.mem_of_getElem? (i := 743) (by decide +kernel))
theorem q744 : (Jvm.Cond.fieldLink "WindowCacheModel" (210 : Nat) "WindowCacheModel" "newMisses" "I") ∈ lw_tbl := List.mem_append_right _ (List.mem_of_getElem? (i := 744) (by decide +kernel))
theorem q745 : (Jvm.Cond.fieldLink "WindowCacheModel" (258 : Nat) "WindowCacheModel" "finished" "I") ∈ lw_tbl := List.mem_append_right _ (List.mem_of_getElem? (i := 745) (by decide +kernel))
theorem q746 : (Jvm.Cond.fieldLink "WindowCacheModel" (261 : Nat) "WindowCacheModel" "failed" "I") ∈ lw_tbl := List.mem_append_right _ (List.mem_of_getElem? (i := 746) (by decide +kernel))
theorem q747 : (Jvm.Cond.fieldLink "WindowCacheModel" (185 : Nat) "WindowCacheModel" "evicted" "I") ∈ lw_tbl := List.mem_append_right _ (List.mem_of_getElem? (i := 747) (by decide +kernel))
theorem q748 : (Jvm.Cond.fieldLink "WindowCacheModel" (188 : Nat) "WindowCacheModel" "evictedWeight" "I") ∈ lw_tbl := List.mem_append_right _ (List.mem_of_getElem? (i := 748) (by decide +kernel))
theorem q749 : (Jvm.Cond.fieldLink "WindowCacheModel" (163 : Nat) "WindowCacheModel" "heard" "I") ∈ lw_tbl := List.mem_append_right _ (List.mem_of_getElem? (i := 749) (by decide +kernel))
theorem q750 : (Jvm.Cond.fieldLink "WindowCacheModel" (84 : Nat) "WindowCacheModel" "heardKey" "[I") ∈ lw_tbl := List.mem_append_right _ (List.mem_of_getElem? (i := 750) (by decide +kernel))
theorem q751 : (Jvm.Cond.fieldLink "WindowCacheModel" (87 : Nat) "WindowCacheModel" "heardValue" "[I") ∈ lw_tbl := List.mem_append_right _ (List.mem_of_getElem? (i := 751) (by decide +kernel))
theorem q752 : (Jvm.Cond.fieldLink "WindowCacheModel" (90 : Nat) "WindowCacheModel" "heardWhy" "[I") ∈ lw_tbl := List.mem_append_right _ (List.mem_of_getElem? (i := 752) (by decide +kernel))
theorem q753 : (Jvm.Cond.lays "WindowCacheModel" "WindowCacheModel" "thrown" "I") ∈ lw_tbl := List.mem_append_right _ (List.mem_of_getElem? (i := 753) (by decide +kernel))
theorem q755 : (Jvm.Cond.laysFinal "WindowCacheModel" "WindowCacheModel" "max" "I") ∈ lw_tbl := List.mem_append_right _ (List.mem_of_getElem? (i := 755) (by decide +kernel))
theorem q757 : (Jvm.Cond.laysFinal "WindowCacheModel" "WindowCacheModel" "write" "I") ∈ lw_tbl := List.mem_append_right _ (List.mem_of_getElem? (i := 757) (by decide +kernel))
theorem q759 : (Jvm.Cond.laysFinal "WindowCacheModel" "WindowCacheModel" "touch" "I") ∈ lw_tbl := List.mem_append_right _ (List.mem_of_getElem? (i := 759) (by decide +kernel))
theorem q761 : (Jvm.Cond.laysFinal "WindowCacheModel" "WindowCacheModel" "size" "I") ∈ lw_tbl := List.mem_append_right _ (List.mem_of_getElem? (i := 761) (by decide +kernel))
theorem q763 : (Jvm.Cond.lays "WindowCacheModel" "WindowCacheModel" "time" "J") ∈ lw_tbl := List.mem_append_right _ (List.mem_of_getElem? (i := 763) (by decide +kernel))
theorem q765 : (Jvm.Cond.laysFinal "WindowCacheModel" "WindowCacheModel" "entryOf" "[I") ∈ lw_tbl := List.mem_append_right _ (List.mem_of_getElem? (i := 765) (by decide +kernel))
theorem q767 : (Jvm.Cond.laysFinal "WindowCacheModel" "WindowCacheModel" "way" "[I") ∈ lw_tbl := List.mem_append_right _ (List.mem_of_getElem? (i := 767) (by decide +kernel))
theorem q769 : (Jvm.Cond.laysFinal "WindowCacheModel" "WindowCacheModel" "wayEntry" "[I") ∈ lw_tbl := List.mem_append_right _ (List.mem_of_getElem? (i := 769) (by decide +kernel))
theorem q771 : (Jvm.Cond.laysFinal "WindowCacheModel" "WindowCacheModel" "wayPuts" "[I") ∈ lw_tbl := List.mem_append_right _ (List.mem_of_getElem? (i := 771) (by decide +kernel))
theorem q773 : (Jvm.Cond.lays "WindowCacheModel" "WindowCacheModel" "entries" "I") ∈ lw_tbl := List.mem_append_right _ (List.mem_of_getElem? (i := 773) (by decide +kernel))
theorem q775 : (Jvm.Cond.laysFinal "WindowCacheModel" "WindowCacheModel" "key" "[I") ∈ lw_tbl := List.mem_append_right _ (List.mem_of_getElem? (i := 775) (by decide +kernel))
theorem q777 : (Jvm.Cond.laysFinal "WindowCacheModel" "WindowCacheModel" "value" "[I") ∈ lw_tbl := List.mem_append_right _ (List.mem_of_getElem? (i := 777) (by decide +kernel))
theorem q779 : (Jvm.Cond.laysFinal "WindowCacheModel" "WindowCacheModel" "weight" "[I") ∈ lw_tbl := List.mem_append_right _ (List.mem_of_getElem? (i := 779) (by decide +kernel))
theorem q781 : (Jvm.Cond.laysFinal "WindowCacheModel" "WindowCacheModel" "own" "[I") ∈ lw_tbl := List.mem_append_right _ (List.mem_of_getElem? (i := 781) (by decide +kernel))
theorem q783 : (Jvm.Cond.laysFinal "WindowCacheModel" "WindowCacheModel" "room" "[I") ∈ lw_tbl := List.mem_append_right _ (List.mem_of_getElem? (i := 783) (by decide +kernel))
theorem q785 : (Jvm.Cond.laysFinal "WindowCacheModel" "WindowCacheModel" "puts" "[I") ∈ lw_tbl := List.mem_append_right _ (List.mem_of_getElem? (i := 785) (by decide +kernel))
theorem q787 : (Jvm.Cond.laysFinal "WindowCacheModel" "WindowCacheModel" "putAt" "[J") ∈ lw_tbl := List.mem_append_right _ (List.mem_of_getElem? (i := 787) (by decide +kernel))
theorem q789 : (Jvm.Cond.laysFinal "WindowCacheModel" "WindowCacheModel" "gotAt" "[J") ∈ lw_tbl := List.mem_append_right _ (List.mem_of_getElem? (i := 789) (by decide +kernel))
theorem q791 : (Jvm.Cond.laysFinal "WindowCacheModel" "WindowCacheModel" "stamp" "[J") ∈ lw_tbl := List.mem_append_right _ (List.mem_of_getElem? (i := 791) (by decide +kernel))
theorem q793 : (Jvm.Cond.laysFinal "WindowCacheModel" "WindowCacheModel" "there" "[Z") ∈ lw_tbl := List.mem_append_right _ (List.mem_of_getElem? (i := 793) (by decide +kernel))
theorem q795 : (Jvm.Cond.laysFinal "WindowCacheModel" "WindowCacheModel" "candidate" "[Z") ∈ lw_tbl := List.mem_append_right _ (List.mem_of_getElem? (i := 795) (by decide +kernel))
theorem q797 : (Jvm.Cond.lays "WindowCacheModel" "WindowCacheModel" "stamps" "J") ∈ lw_tbl := List.mem_append_right _ (List.mem_of_getElem? (i := 797) (by decide +kernel))
theorem q799 : (Jvm.Cond.laysFinal "WindowCacheModel" "WindowCacheModel" "notes" "[I") ∈ lw_tbl := List.mem_append_right _ (List.mem_of_getElem? (i := 799) (by decide +kernel))
theorem q801 : (Jvm.Cond.laysFinal "WindowCacheModel" "WindowCacheModel" "noted" "[I") ∈ lw_tbl := List.mem_append_right _ (List.mem_of_getElem? (i := 801) (by decide +kernel))
theorem q803 : (Jvm.Cond.laysFinal "WindowCacheModel" "WindowCacheModel" "taskKind" "[I") ∈ lw_tbl := List.mem_append_right _ (List.mem_of_getElem? (i := 803) (by decide +kernel))
theorem q805 : (Jvm.Cond.laysFinal "WindowCacheModel" "WindowCacheModel" "taskEntry" "[I") ∈ lw_tbl := List.mem_append_right _ (List.mem_of_getElem? (i := 805) (by decide +kernel))
theorem q807 : (Jvm.Cond.lays "WindowCacheModel" "WindowCacheModel" "tasks" "I") ∈ lw_tbl := List.mem_append_right _ (List.mem_of_getElem? (i := 807) (by decide +kernel))
theorem q809 : (Jvm.Cond.lays "WindowCacheModel" "WindowCacheModel" "lost" "I") ∈ lw_tbl := List.mem_append_right _ (List.mem_of_getElem? (i := 809) (by decide +kernel))
theorem q811 : (Jvm.Cond.lays "WindowCacheModel" "WindowCacheModel" "added" "I") ∈ lw_tbl := List.mem_append_right _ (List.mem_of_getElem? (i := 811) (by decide +kernel))
theorem q813 : (Jvm.Cond.laysFinal "WindowCacheModel" "WindowCacheModel" "counts" "[I") ∈ lw_tbl := List.mem_append_right _ (List.mem_of_getElem? (i := 813) (by decide +kernel))
theorem q815 : (Jvm.Cond.laysFinal "WindowCacheModel" "WindowCacheModel" "odd" "[I") ∈ lw_tbl := List.mem_append_right _ (List.mem_of_getElem? (i := 815) (by decide +kernel))
theorem q817 : (Jvm.Cond.lays "WindowCacheModel" "WindowCacheModel" "window" "I") ∈ lw_tbl := List.mem_append_right _ (List.mem_of_getElem? (i := 817) (by decide +kernel))
theorem q819 : (Jvm.Cond.lays "WindowCacheModel" "WindowCacheModel" "step" "I") ∈ lw_tbl := List.mem_append_right _ (List.mem_of_getElem? (i := 819) (by decide +kernel))
theorem q821 : (Jvm.Cond.lays "WindowCacheModel" "WindowCacheModel" "rate" "I") ∈ lw_tbl := List.mem_append_right _ (List.mem_of_getElem? (i := 821) (by decide +kernel))
theorem q823 : (Jvm.Cond.lays "WindowCacheModel" "WindowCacheModel" "draw" "I") ∈ lw_tbl := List.mem_append_right _ (List.mem_of_getElem? (i := 823) (by decide +kernel))
theorem q825 : (Jvm.Cond.lays "WindowCacheModel" "WindowCacheModel" "up" "Z") ∈ lw_tbl := List.mem_append_right _ (List.mem_of_getElem? (i := 825) (by decide +kernel))
theorem q827 : (Jvm.Cond.lays "WindowCacheModel" "WindowCacheModel" "hits" "I") ∈ lw_tbl := List.mem_append_right _ (List.mem_of_getElem? (i := 827) (by decide +kernel))
theorem q829 : (Jvm.Cond.lays "WindowCacheModel" "WindowCacheModel" "misses" "I") ∈ lw_tbl := List.mem_append_right _ (List.mem_of_getElem? (i := 829) (by decide +kernel))
theorem q831 : (Jvm.Cond.lays "WindowCacheModel" "WindowCacheModel" "newHits" "I") ∈ lw_tbl := List.mem_append_right _ (List.mem_of_getElem? (i := 831) (by decide +kernel))
theorem q833 : (Jvm.Cond.lays "WindowCacheModel" "WindowCacheModel" "newMisses" "I") ∈ lw_tbl := List.mem_append_right _ (List.mem_of_getElem? (i := 833) (by decide +kernel))
theorem q835 : (Jvm.Cond.lays "WindowCacheModel" "WindowCacheModel" "finished" "I") ∈ lw_tbl := List.mem_append_right _ (List.mem_of_getElem? (i := 835) (by decide +kernel))
theorem q837 : (Jvm.Cond.lays "WindowCacheModel" "WindowCacheModel" "failed" "I") ∈ lw_tbl := List.mem_append_right _ (List.mem_of_getElem? (i := 837) (by decide +kernel))
theorem q839 : (Jvm.Cond.lays "WindowCacheModel" "WindowCacheModel" "evicted" "I") ∈ lw_tbl := List.mem_append_right _ (List.mem_of_getElem? (i := 839) (by decide +kernel))
theorem q841 : (Jvm.Cond.lays "WindowCacheModel" "WindowCacheModel" "evictedWeight" "I") ∈ lw_tbl := List.mem_append_right _ (List.mem_of_getElem? (i := 841) (by decide +kernel))
theorem q843 : (Jvm.Cond.lays "WindowCacheModel" "WindowCacheModel" "heard" "I") ∈ lw_tbl := List.mem_append_right _ (List.mem_of_getElem? (i := 843) (by decide +kernel))
theorem q845 : (Jvm.Cond.laysFinal "WindowCacheModel" "WindowCacheModel" "heardKey" "[I") ∈ lw_tbl := List.mem_append_right _ (List.mem_of_getElem? (i := 845) (by decide +kernel))
theorem q847 : (Jvm.Cond.laysFinal "WindowCacheModel" "WindowCacheModel" "heardValue" "[I") ∈ lw_tbl := List.mem_append_right _ (List.mem_of_getElem? (i := 847) (by decide +kernel))
theorem q849 : (Jvm.Cond.laysFinal "WindowCacheModel" "WindowCacheModel" "heardWhy" "[I") ∈ lw_tbl := List.mem_append_right _ (List.mem_of_getElem? (i := 849) (by decide +kernel))
theorem q852 : (Jvm.Cond.arrayClass Jvm.ClassFile.FieldType.long) ∈ lw_tbl := List.mem_append_right _ (List.mem_of_getElem? (i := 852) (by decide +kernel))
theorem q853 : (Jvm.Cond.arrayClass Jvm.ClassFile.FieldType.boolean) ∈ lw_tbl := List.mem_append_right _ (List.mem_of_getElem? (i := 853) (by decide +kernel))
theorem q854 : (Jvm.Cond.methodLink "WindowCacheLaw" (54 : Nat) ({ cls := "WindowCacheModel", name := "thrown", desc := "()I" } : Jvm.MethodName)) ∈ lw_tbl := List.mem_append_right _ (List.mem_of_getElem? (i := 854) (by decide +kernel))
theorem q855 : (Jvm.Cond.instanceMethod ({ cls := "WindowCacheModel", name := "thrown", desc := "()I" } : Jvm.MethodName)) ∈ lw_tbl := List.mem_append_right _ (List.mem_of_getElem? (i := 855) (by decide +kernel))
theorem q856 : (Jvm.Cond.selects "WindowCacheModel" ({ cls := "WindowCacheModel", name := "thrown", desc := "()I" } : Jvm.MethodName) ({ cls := "WindowCacheModel", name := "thrown", desc := "()I" } : Jvm.MethodName)) ∈ lw_tbl := List.mem_append_right _ (List.mem_of_getElem? (i := 856) (by decide +kernel))
theorem q857 : (Jvm.Cond.code ({ cls := "WindowCacheModel", name := "thrown", desc := "()I" } : Jvm.MethodName) prog_13_method_2_code (1 : Nat) (Option.some Jvm.ClassFile.FieldType.int)) ∈ lw_tbl := List.mem_append_right _ (List.mem_of_getElem? (i := 857) (by decide +kernel))
theorem q858 : (Jvm.Cond.methodLink "WindowCacheLaw" (44 : Nat) ({ cls := "WindowCacheModel", name := "get", desc := "(I)I" } : Jvm.MethodName)) ∈ lw_tbl := List.mem_append_right _ (List.mem_of_getElem? (i := 858) (by decide +kernel))
theorem q859 : (Jvm.Cond.instanceMethod ({ cls := "WindowCacheModel", name := "get", desc := "(I)I" } : Jvm.MethodName)) ∈ lw_tbl := List.mem_append_right _ (List.mem_of_getElem? (i := 859) (by decide +kernel))
theorem q860 : (Jvm.Cond.selects "WindowCacheModel" ({ cls := "WindowCacheModel", name := "get", desc := "(I)I" } : Jvm.MethodName) ({ cls := "WindowCacheModel", name := "get", desc := "(I)I" } : Jvm.MethodName)) ∈ lw_tbl := List.mem_append_right _ (List.mem_of_getElem? (i := 860) (by decide +kernel))
theorem q861 : (Jvm.Cond.code ({ cls := "WindowCacheModel", name := "get", desc := "(I)I" } : Jvm.MethodName) prog_13_method_30_code (2 : Nat) (Option.some Jvm.ClassFile.FieldType.int)) ∈ lw_tbl := List.mem_append_right _ (List.mem_of_getElem? (i := 861) (by decide +kernel))
theorem q862 : (Jvm.Cond.methodLink "WindowCacheModel" (245 : Nat) ({ cls := "WindowCacheModel", name := "isKey", desc := "(I)Z" } : Jvm.MethodName)) ∈ lw_tbl := List.mem_append_right _ (List.mem_of_getElem? (i := 862) (by decide +kernel))
theorem q863 : (Jvm.Cond.static ({ cls := "WindowCacheModel", name := "isKey", desc := "(I)Z" } : Jvm.MethodName)) ∈ lw_tbl := List.mem_append_right _ (List.mem_of_getElem? (i := 863) (by decide +kernel))
theorem q864 : (Jvm.Cond.code ({ cls := "WindowCacheModel", name := "isKey", desc := "(I)Z" } : Jvm.MethodName) prog_13_method_4_code (1 : Nat) (Option.some Jvm.ClassFile.FieldType.boolean)) ∈ lw_tbl := List.mem_append_right _ (List.mem_of_getElem? (i := 864) (by decide +kernel))
theorem q865 : (Jvm.Cond.methodLink "WindowCacheModel" (248 : Nat) ({ cls := "WindowCacheModel", name := "got", desc := "(I)I" } : Jvm.MethodName)) ∈ lw_tbl := List.mem_append_right _ (List.mem_of_getElem? (i := 865) (by decide +kernel))
theorem q867 : (Jvm.Cond.instanceMethod ({ cls := "WindowCacheModel", name := "got", desc := "(I)I" } : Jvm.MethodName)) ∈ lw_tbl := List.mem_append_right _ (List.mem_of_getElem? (i := 867) (by decide +kernel))
theorem q868 : (Jvm.Cond.code ({ cls := "WindowCacheModel", name := "got", desc := "(I)I" } : Jvm.MethodName) prog_13_method_29_code (4 : Nat) (Option.some Jvm.ClassFile.FieldType.int)) ∈ lw_tbl := List.mem_append_right _ (List.mem_of_getElem? (i := 868) (by decide +kernel))
theorem q869 : (Jvm.Cond.methodLink "WindowCacheModel" (233 : Nat) ({ cls := "WindowCacheModel", name := "seen", desc := "(I)I" } : Jvm.MethodName)) ∈ lw_tbl := List.mem_append_right _ (List.mem_of_getElem? (i := 869) (by decide +kernel))
theorem q871 : (Jvm.Cond.instanceMethod ({ cls := "WindowCacheModel", name := "seen", desc := "(I)I" } : Jvm.MethodName)) ∈ lw_tbl := List.mem_append_right _ (List.mem_of_getElem? (i := 871) (by decide +kernel))
theorem q872 : (Jvm.Cond.code ({ cls := "WindowCacheModel", name := "seen", desc := "(I)I" } : Jvm.MethodName) prog_13_method_7_code (2 : Nat) (Option.some Jvm.ClassFile.FieldType.int)) ∈ lw_tbl := List.mem_append_right _ (List.mem_of_getElem? (i := 872) (by decide +kernel))
theorem q873 : (Jvm.Cond.methodLink "WindowCacheModel" (132 : Nat) ({ cls := "WindowCacheModel", name := "isOver", desc := "(I)Z" } : Jvm.MethodName)) ∈ lw_tbl := List.mem_append_right _ (List.mem_of_getElem? (i := 873) (by decide +kernel))
theorem q875 : (Jvm.Cond.instanceMethod ({ cls := "WindowCacheModel", name := "isOver", desc := "(I)Z" } : Jvm.MethodName)) ∈ lw_tbl := List.mem_append_right _ (List.mem_of_getElem? (i := 875) (by decide +kernel))
theorem q876 : (Jvm.Cond.code ({ cls := "WindowCacheModel", name := "isOver", desc := "(I)Z" } : Jvm.MethodName) prog_13_method_6_code (2 : Nat) (Option.some Jvm.ClassFile.FieldType.boolean)) ∈ lw_tbl := List.mem_append_right _ (List.mem_of_getElem? (i := 876) (by decide +kernel))
theorem q877 : (Jvm.Cond.methodLink "WindowCacheModel" (124 : Nat) ({ cls := "WindowCacheModel", name := "end", desc := "(I)J" } : Jvm.MethodName)) ∈ lw_tbl := List.mem_append_right _ (List.mem_of_getElem? (i := 877) (by decide +kernel))
theorem q879 : (Jvm.Cond.instanceMethod ({ cls := "WindowCacheModel", name := "end", desc := "(I)J" } : Jvm.MethodName)) ∈ lw_tbl := List.mem_append_right _ (List.mem_of_getElem? (i := 879) (by decide +kernel))
theorem q880 : (Jvm.Cond.code ({ cls := "WindowCacheModel", name := "end", desc := "(I)J" } : Jvm.MethodName) prog_13_method_5_code (6 : Nat) (Option.some Jvm.ClassFile.FieldType.long)) ∈ lw_tbl := List.mem_append_right _ (List.mem_of_getElem? (i := 880) (by decide +kernel))
theorem q881 : (Jvm.Cond.constantLong "WindowCacheModel" (122 : Nat) (4611686018427387904 : Int64)) ∈ lw_tbl := List.mem_append_right _ (List.mem_of_getElem? (i := 881) (by decide +kernel))
theorem q882 : (Jvm.Cond.methodLink "WindowCacheLaw" (49 : Nat) ({ cls := "WindowCacheModel", name := "has", desc := "(I)Z" } : Jvm.MethodName)) ∈ lw_tbl := List.mem_append_right _ (List.mem_of_getElem? (i := 882) (by decide +kernel))
theorem q883 : (Jvm.Cond.instanceMethod ({ cls := "WindowCacheModel", name := "has", desc := "(I)Z" } : Jvm.MethodName)) ∈ lw_tbl := List.mem_append_right _ (List.mem_of_getElem? (i := 883) (by decide +kernel))
theorem q884 : (Jvm.Cond.selects "WindowCacheModel" ({ cls := "WindowCacheModel", name := "has", desc := "(I)Z" } : Jvm.MethodName) ({ cls := "WindowCacheModel", name := "has", desc := "(I)Z" } : Jvm.MethodName)) ∈ lw_tbl := List.mem_append_right _ (List.mem_of_getElem? (i := 884) (by decide +kernel))
theorem q885 : (Jvm.Cond.code ({ cls := "WindowCacheModel", name := "has", desc := "(I)Z" } : Jvm.MethodName) prog_13_method_31_code (2 : Nat) (Option.some Jvm.ClassFile.FieldType.boolean)) ∈ lw_tbl := List.mem_append_right _ (List.mem_of_getElem? (i := 885) (by decide +kernel))
theorem q886 : (Jvm.Cond.methodLink "WindowCacheLaw" (53 : Nat) ({ cls := "WindowCacheModel", name := "put", desc := "(IIII)Z" } : Jvm.MethodName)) ∈ lw_tbl := List.mem_append_right _ (List.mem_of_getElem? (i := 886) (by decide +kernel))
theorem q887 : (Jvm.Cond.instanceMethod ({ cls := "WindowCacheModel", name := "put", desc := "(IIII)Z" } : Jvm.MethodName)) ∈ lw_tbl := List.mem_append_right _ (List.mem_of_getElem? (i := 887) (by decide +kernel))
theorem q888 : (Jvm.Cond.selects "WindowCacheModel" ({ cls := "WindowCacheModel", name := "put", desc := "(IIII)Z" } : Jvm.MethodName) ({ cls := "WindowCacheModel", name := "put", desc := "(IIII)Z" } : Jvm.MethodName)) ∈ lw_tbl := List.mem_append_right _ (List.mem_of_getElem? (i := 888) (by decide +kernel))
theorem q889 : (Jvm.Cond.code ({ cls := "WindowCacheModel", name := "put", desc := "(IIII)Z" } : Jvm.MethodName) prog_13_method_33_code (5 : Nat) (Option.some Jvm.ClassFile.FieldType.boolean)) ∈ lw_tbl := List.mem_append_right _ (List.mem_of_getElem? (i := 889) (by decide +kernel))
theorem q890 : (Jvm.Cond.methodLink "WindowCacheModel" (254 : Nat) ({ cls := "WindowCacheModel", name := "lay", desc := "(IIII)Z" } : Jvm.MethodName)) ∈ lw_tbl := List.mem_append_right _ (List.mem_of_getElem? (i := 890) (by decide +kernel))
theorem q892 : (Jvm.Cond.instanceMethod ({ cls := "WindowCacheModel", name := "lay", desc := "(IIII)Z" } : Jvm.MethodName)) ∈ lw_tbl := List.mem_append_right _ (List.mem_of_getElem? (i := 892) (by decide +kernel))
theorem q893 : (Jvm.Cond.code ({ cls := "WindowCacheModel", name := "lay", desc := "(IIII)Z" } : Jvm.MethodName) prog_13_method_32_code (8 : Nat) (Option.some Jvm.ClassFile.FieldType.boolean)) ∈ lw_tbl := List.mem_append_right _ (List.mem_of_getElem? (i := 893) (by decide +kernel))
theorem q894 : (Jvm.Cond.methodLink "WindowCacheModel" (166 : Nat) ({ cls := "WindowCacheModel", name := "hear", desc := "(II)V" } : Jvm.MethodName)) ∈ lw_tbl := List.mem_append_right _ (List.mem_of_getElem? (i := 894) (by decide +kernel))
theorem q896 : (Jvm.Cond.instanceMethod ({ cls := "WindowCacheModel", name := "hear", desc := "(II)V" } : Jvm.MethodName)) ∈ lw_tbl := List.mem_append_right _ (List.mem_of_getElem? (i := 896) (by decide +kernel))
theorem q897 : (Jvm.Cond.code ({ cls := "WindowCacheModel", name := "hear", desc := "(II)V" } : Jvm.MethodName) prog_13_method_17_code (3 : Nat) (Option.none : Option Jvm.ClassFile.FieldType)) ∈ lw_tbl := List.mem_append_right _ (List.mem_of_getElem? (i := 897) (by decide +kernel))
theorem q898 : (Jvm.Cond.methodLink "WindowCacheModel" (182 : Nat) ({ cls := "WindowCacheModel", name := "drop", desc := "(II)V" } : Jvm.MethodName)) ∈ lw_tbl := List.mem_append_right _ (List.mem_of_getElem? (i := 898) (by decide +kernel))
theorem q900 : (Jvm.Cond.instanceMethod ({ cls := "WindowCacheModel", name := "drop", desc := "(II)V" } : Jvm.MethodName)) ∈ lw_tbl := List.mem_append_right _ (List.mem_of_getElem? (i := 900) (by decide +kernel))
theorem q901 : (Jvm.Cond.code ({ cls := "WindowCacheModel", name := "drop", desc := "(II)V" } : Jvm.MethodName) prog_13_method_18_code (3 : Nat) (Option.none : Option Jvm.ClassFile.FieldType)) ∈ lw_tbl := List.mem_append_right _ (List.mem_of_getElem? (i := 901) (by decide +kernel))
theorem q902 : (Jvm.Cond.methodLink "WindowCacheModel" (251 : Nat) ({ cls := "WindowCacheModel", name := "task", desc := "(II)V" } : Jvm.MethodName)) ∈ lw_tbl := List.mem_append_right _ (List.mem_of_getElem? (i := 902) (by decide +kernel))
theorem q904 : (Jvm.Cond.instanceMethod ({ cls := "WindowCacheModel", name := "task", desc := "(II)V" } : Jvm.MethodName)) ∈ lw_tbl := List.mem_append_right _ (List.mem_of_getElem? (i := 904) (by decide +kernel))
theorem q905 : (Jvm.Cond.code ({ cls := "WindowCacheModel", name := "task", desc := "(II)V" } : Jvm.MethodName) prog_13_method_19_code (3 : Nat) (Option.none : Option Jvm.ClassFile.FieldType)) ∈ lw_tbl := List.mem_append_right _ (List.mem_of_getElem? (i := 905) (by decide +kernel))
theorem q906 : (Jvm.Cond.methodLink "WindowCacheModel" (172 : Nat) ({ cls := "WindowCacheModel", name := "maintenance", desc := "()V" } : Jvm.MethodName)) ∈ lw_tbl := List.mem_append_right _ (List.mem_of_getElem? (i := 906) (by decide +kernel))
theorem q908 : (Jvm.Cond.instanceMethod ({ cls := "WindowCacheModel", name := "maintenance", desc := "()V" } : Jvm.MethodName)) ∈ lw_tbl := List.mem_append_right _ (List.mem_of_getElem? (i := 908) (by decide +kernel))
theorem q909 : (Jvm.Cond.code ({ cls := "WindowCacheModel", name := "maintenance", desc := "()V" } : Jvm.MethodName) prog_13_method_28_code (1 : Nat) (Option.none : Option Jvm.ClassFile.FieldType)) ∈ lw_tbl := List.mem_append_right _ (List.mem_of_getElem? (i := 909) (by decide +kernel))
theorem q910 : (Jvm.Cond.methodLink "WindowCacheModel" (218 : Nat) ({ cls := "WindowCacheModel", name := "workNotes", desc := "()V" } : Jvm.MethodName)) ∈ lw_tbl := List.mem_append_right _ (List.mem_of_getElem? (i := 910) (by decide +kernel))
theorem q912 : (Jvm.Cond.instanceMethod ({ cls := "WindowCacheModel", name := "workNotes", desc := "()V" } : Jvm.MethodName)) ∈ lw_tbl := List.mem_append_right _ (List.mem_of_getElem? (i := 912) (by decide +kernel))
theorem q913 : (Jvm.Cond.code ({ cls := "WindowCacheModel", name := "workNotes", desc := "()V" } : Jvm.MethodName) prog_13_method_20_code (4 : Nat) (Option.none : Option Jvm.ClassFile.FieldType)) ∈ lw_tbl := List.mem_append_right _ (List.mem_of_getElem? (i := 913) (by decide +kernel))
theorem q914 : (Jvm.Cond.methodLink "WindowCacheModel" (175 : Nat) ({ cls := "WindowCacheModel", name := "count1", desc := "(I)V" } : Jvm.MethodName)) ∈ lw_tbl := List.mem_append_right _ (List.mem_of_getElem? (i := 914) (by decide +kernel))
theorem q916 : (Jvm.Cond.instanceMethod ({ cls := "WindowCacheModel", name := "count1", desc := "(I)V" } : Jvm.MethodName)) ∈ lw_tbl := List.mem_append_right _ (List.mem_of_getElem? (i := 916) (by decide +kernel))
theorem q917 : (Jvm.Cond.code ({ cls := "WindowCacheModel", name := "count1", desc := "(I)V" } : Jvm.MethodName) prog_13_method_10_code (6 : Nat) (Option.none : Option Jvm.ClassFile.FieldType)) ∈ lw_tbl := List.mem_append_right _ (List.mem_of_getElem? (i := 917) (by decide +kernel))
theorem q918 : (Jvm.Cond.methodLink "WindowCacheModel" (136 : Nat) ({ cls := "WindowCacheModel", name := "place", desc := "(II)I" } : Jvm.MethodName)) ∈ lw_tbl := List.mem_append_right _ (List.mem_of_getElem? (i := 918) (by decide +kernel))
theorem q920 : (Jvm.Cond.instanceMethod ({ cls := "WindowCacheModel", name := "place", desc := "(II)I" } : Jvm.MethodName)) ∈ lw_tbl := List.mem_append_right _ (List.mem_of_getElem? (i := 920) (by decide +kernel))
theorem q921 : (Jvm.Cond.code ({ cls := "WindowCacheModel", name := "place", desc := "(II)I" } : Jvm.MethodName) prog_13_method_8_code (3 : Nat) (Option.some Jvm.ClassFile.FieldType.int)) ∈ lw_tbl := List.mem_append_right _ (List.mem_of_getElem? (i := 921) (by decide +kernel))
theorem q922 : (Jvm.Cond.methodLink "WindowCacheModel" (179 : Nat) ({ cls := "WindowCacheModel", name := "touched", desc := "(I)V" } : Jvm.MethodName)) ∈ lw_tbl := List.mem_append_right _ (List.mem_of_getElem? (i := 922) (by decide +kernel))
theorem q924 : (Jvm.Cond.instanceMethod ({ cls := "WindowCacheModel", name := "touched", desc := "(I)V" } : Jvm.MethodName)) ∈ lw_tbl := List.mem_append_right _ (List.mem_of_getElem? (i := 924) (by decide +kernel))
theorem q925 : (Jvm.Cond.code ({ cls := "WindowCacheModel", name := "touched", desc := "(I)V" } : Jvm.MethodName) prog_13_method_16_code (2 : Nat) (Option.none : Option Jvm.ClassFile.FieldType)) ∈ lw_tbl := List.mem_append_right _ (List.mem_of_getElem? (i := 925) (by decide +kernel))
theorem q926 : (Jvm.Cond.methodLink "WindowCacheModel" (156 : Nat) ({ cls := "WindowCacheModel", name := "latest", desc := "(II)V" } : Jvm.MethodName)) ∈ lw_tbl := List.mem_append_right _ (List.mem_of_getElem? (i := 926) (by decide +kernel))
theorem q928 : (Jvm.Cond.instanceMethod ({ cls := "WindowCacheModel", name := "latest", desc := "(II)V" } : Jvm.MethodName)) ∈ lw_tbl := List.mem_append_right _ (List.mem_of_getElem? (i := 928) (by decide +kernel))
theorem q929 : (Jvm.Cond.code ({ cls := "WindowCacheModel", name := "latest", desc := "(II)V" } : Jvm.MethodName) prog_13_method_14_code (3 : Nat) (Option.none : Option Jvm.ClassFile.FieldType)) ∈ lw_tbl := List.mem_append_right _ (List.mem_of_getElem? (i := 929) (by decide +kernel))
theorem q930 : (Jvm.Cond.methodLink "WindowCacheModel" (160 : Nat) ({ cls := "WindowCacheModel", name := "lower", desc := "()V" } : Jvm.MethodName)) ∈ lw_tbl := List.mem_append_right _ (List.mem_of_getElem? (i := 930) (by decide +kernel))
theorem q932 : (Jvm.Cond.instanceMethod ({ cls := "WindowCacheModel", name := "lower", desc := "()V" } : Jvm.MethodName)) ∈ lw_tbl := List.mem_append_right _ (List.mem_of_getElem? (i := 932) (by decide +kernel))
theorem q933 : (Jvm.Cond.code ({ cls := "WindowCacheModel", name := "lower", desc := "()V" } : Jvm.MethodName) prog_13_method_15_code (1 : Nat) (Option.none : Option Jvm.ClassFile.FieldType)) ∈ lw_tbl := List.mem_append_right _ (List.mem_of_getElem? (i := 933) (by decide +kernel))
theorem q934 : (Jvm.Cond.methodLink "WindowCacheModel" (146 : Nat) ({ cls := "WindowCacheModel", name := "weightOf", desc := "(I)I" } : Jvm.MethodName)) ∈ lw_tbl := List.mem_append_right _ (List.mem_of_getElem? (i := 934) (by decide +kernel))
theorem q936 : (Jvm.Cond.instanceMethod ({ cls := "WindowCacheModel", name := "weightOf", desc := "(I)I" } : Jvm.MethodName)) ∈ lw_tbl := List.mem_append_right _ (List.mem_of_getElem? (i := 936) (by decide +kernel))
theorem q937 : (Jvm.Cond.code ({ cls := "WindowCacheModel", name := "weightOf", desc := "(I)I" } : Jvm.MethodName) prog_13_method_11_code (4 : Nat) (Option.some Jvm.ClassFile.FieldType.int)) ∈ lw_tbl := List.mem_append_right _ (List.mem_of_getElem? (i := 937) (by decide +kernel))
theorem q938 : (Jvm.Cond.methodLink "WindowCacheModel" (153 : Nat) ({ cls := "WindowCacheModel", name := "earliest", desc := "(I)I" } : Jvm.MethodName)) ∈ lw_tbl := List.mem_append_right _ (List.mem_of_getElem? (i := 938) (by decide +kernel))
theorem q940 : (Jvm.Cond.instanceMethod ({ cls := "WindowCacheModel", name := "earliest", desc := "(I)I" } : Jvm.MethodName)) ∈ lw_tbl := List.mem_append_right _ (List.mem_of_getElem? (i := 940) (by decide +kernel))
theorem q941 : (Jvm.Cond.code ({ cls := "WindowCacheModel", name := "earliest", desc := "(I)I" } : Jvm.MethodName) prog_13_method_13_code (4 : Nat) (Option.some Jvm.ClassFile.FieldType.int)) ∈ lw_tbl := List.mem_append_right _ (List.mem_of_getElem? (i := 941) (by decide +kernel))
theorem q942 : (Jvm.Cond.methodLink "WindowCacheModel" (221 : Nat) ({ cls := "WindowCacheModel", name := "workTasks", desc := "()V" } : Jvm.MethodName)) ∈ lw_tbl := List.mem_append_right _ (List.mem_of_getElem? (i := 942) (by decide +kernel))
theorem q944 : (Jvm.Cond.instanceMethod ({ cls := "WindowCacheModel", name := "workTasks", desc := "()V" } : Jvm.MethodName)) ∈ lw_tbl := List.mem_append_right _ (List.mem_of_getElem? (i := 944) (by decide +kernel))
theorem q945 : (Jvm.Cond.code ({ cls := "WindowCacheModel", name := "workTasks", desc := "()V" } : Jvm.MethodName) prog_13_method_21_code (3 : Nat) (Option.none : Option Jvm.ClassFile.FieldType)) ∈ lw_tbl := List.mem_append_right _ (List.mem_of_getElem? (i := 945) (by decide +kernel))
theorem q946 : (Jvm.Cond.methodLink "WindowCacheModel" (224 : Nat) ({ cls := "WindowCacheModel", name := "expire", desc := "()V" } : Jvm.MethodName)) ∈ lw_tbl := List.mem_append_right _ (List.mem_of_getElem? (i := 946) (by decide +kernel))
theorem q948 : (Jvm.Cond.instanceMethod ({ cls := "WindowCacheModel", name := "expire", desc := "()V" } : Jvm.MethodName)) ∈ lw_tbl := List.mem_append_right _ (List.mem_of_getElem? (i := 948) (by decide +kernel))
theorem q949 : (Jvm.Cond.code ({ cls := "WindowCacheModel", name := "expire", desc := "()V" } : Jvm.MethodName) prog_13_method_22_code (4 : Nat) (Option.none : Option Jvm.ClassFile.FieldType)) ∈ lw_tbl := List.mem_append_right _ (List.mem_of_getElem? (i := 949) (by decide +kernel))
theorem q950 : (Jvm.Cond.methodLink "WindowCacheModel" (227 : Nat) ({ cls := "WindowCacheModel", name := "shrink", desc := "()V" } : Jvm.MethodName)) ∈ lw_tbl := List.mem_append_right _ (List.mem_of_getElem? (i := 950) (by decide +kernel))
theorem q952 : (Jvm.Cond.instanceMethod ({ cls := "WindowCacheModel", name := "shrink", desc := "()V" } : Jvm.MethodName)) ∈ lw_tbl := List.mem_append_right _ (List.mem_of_getElem? (i := 952) (by decide +kernel))
theorem q953 : (Jvm.Cond.code ({ cls := "WindowCacheModel", name := "shrink", desc := "()V" } : Jvm.MethodName) prog_13_method_26_code (4 : Nat) (Option.none : Option Jvm.ClassFile.FieldType)) ∈ lw_tbl := List.mem_append_right _ (List.mem_of_getElem? (i := 953) (by decide +kernel))
theorem q954 : (Jvm.Cond.methodLink "WindowCacheModel" (191 : Nat) ({ cls := "WindowCacheModel", name := "all", desc := "()I" } : Jvm.MethodName)) ∈ lw_tbl := List.mem_append_right _ (List.mem_of_getElem? (i := 954) (by decide +kernel))
theorem q956 : (Jvm.Cond.instanceMethod ({ cls := "WindowCacheModel", name := "all", desc := "()I" } : Jvm.MethodName)) ∈ lw_tbl := List.mem_append_right _ (List.mem_of_getElem? (i := 956) (by decide +kernel))
theorem q957 : (Jvm.Cond.code ({ cls := "WindowCacheModel", name := "all", desc := "()I" } : Jvm.MethodName) prog_13_method_12_code (1 : Nat) (Option.some Jvm.ClassFile.FieldType.int)) ∈ lw_tbl := List.mem_append_right _ (List.mem_of_getElem? (i := 957) (by decide +kernel))
theorem q958 : (Jvm.Cond.methodLink "WindowCacheModel" (194 : Nat) ({ cls := "WindowCacheModel", name := "nextCandidate", desc := "()I" } : Jvm.MethodName)) ∈ lw_tbl := List.mem_append_right _ (List.mem_of_getElem? (i := 958) (by decide +kernel))
theorem q960 : (Jvm.Cond.instanceMethod ({ cls := "WindowCacheModel", name := "nextCandidate", desc := "()I" } : Jvm.MethodName)) ∈ lw_tbl := List.mem_append_right _ (List.mem_of_getElem? (i := 960) (by decide +kernel))
end
section
theorem q961 : (Jvm.Cond.code ({ cls := "WindowCacheModel", name := "nextCandidate", desc := "()I" } : Jvm.MethodName) prog_13_method_24_code (3 : Nat) (Option.some Jvm.ClassFile.FieldType.int)) ∈ lw_tbl := List.mem_append_right _ (List.mem_of_getElem? (i := 961) (by decide +kernel))
theorem q962 : (Jvm.Cond.methodLink "WindowCacheModel" (197 : Nat) ({ cls := "WindowCacheModel", name := "often0", desc := "(I)I" } : Jvm.MethodName)) ∈ lw_tbl := List.mem_append_right _ (List.mem_of_getElem? (i := 962) (by decide +kernel))
theorem q964 : (Jvm.Cond.instanceMethod ({ cls := "WindowCacheModel", name := "often0", desc := "(I)I" } : Jvm.MethodName)) ∈ lw_tbl := List.mem_append_right _ (List.mem_of_getElem? (i := 964) (by decide +kernel))
theorem q965 : (Jvm.Cond.code ({ cls := "WindowCacheModel", name := "often0", desc := "(I)I" } : Jvm.MethodName) prog_13_method_9_code (4 : Nat) (Option.some Jvm.ClassFile.FieldType.int)) ∈ lw_tbl := List.mem_append_right _ (List.mem_of_getElem? (i := 965) (by decide +kernel))
theorem q966 : (Jvm.Cond.methodLink "WindowCacheModel" (200 : Nat) ({ cls := "WindowCacheModel", name := "drawn", desc := "()Z" } : Jvm.MethodName)) ∈ lw_tbl := List.mem_append_right _ (List.mem_of_getElem? (i := 966) (by decide +kernel))
theorem q968 : (Jvm.Cond.instanceMethod ({ cls := "WindowCacheModel", name := "drawn", desc := "()Z" } : Jvm.MethodName)) ∈ lw_tbl := List.mem_append_right _ (List.mem_of_getElem? (i := 968) (by decide +kernel))
theorem q969 : (Jvm.Cond.code ({ cls := "WindowCacheModel", name := "drawn", desc := "()Z" } : Jvm.MethodName) prog_13_method_25_code (1 : Nat) (Option.some Jvm.ClassFile.FieldType.boolean)) ∈ lw_tbl := List.mem_append_right _ (List.mem_of_getElem? (i := 969) (by decide +kernel))
theorem q970 : (Jvm.Cond.methodLink "WindowCacheModel" (204 : Nat) ({ cls := "WindowCacheModel", name := "evict", desc := "(I)V" } : Jvm.MethodName)) ∈ lw_tbl := List.mem_append_right _ (List.mem_of_getElem? (i := 970) (by decide +kernel))
theorem q972 : (Jvm.Cond.instanceMethod ({ cls := "WindowCacheModel", name := "evict", desc := "(I)V" } : Jvm.MethodName)) ∈ lw_tbl := List.mem_append_right _ (List.mem_of_getElem? (i := 972) (by decide +kernel))
theorem q973 : (Jvm.Cond.code ({ cls := "WindowCacheModel", name := "evict", desc := "(I)V" } : Jvm.MethodName) prog_13_method_23_code (2 : Nat) (Option.none : Option Jvm.ClassFile.FieldType)) ∈ lw_tbl := List.mem_append_right _ (List.mem_of_getElem? (i := 973) (by decide +kernel))
theorem q974 : (Jvm.Cond.methodLink "WindowCacheModel" (230 : Nat) ({ cls := "WindowCacheModel", name := "climb", desc := "()V" } : Jvm.MethodName)) ∈ lw_tbl := List.mem_append_right _ (List.mem_of_getElem? (i := 974) (by decide +kernel))
theorem q976 : (Jvm.Cond.instanceMethod ({ cls := "WindowCacheModel", name := "climb", desc := "()V" } : Jvm.MethodName)) ∈ lw_tbl := List.mem_append_right _ (List.mem_of_getElem? (i := 976) (by decide +kernel))
theorem q977 : (Jvm.Cond.code ({ cls := "WindowCacheModel", name := "climb", desc := "()V" } : Jvm.MethodName) prog_13_method_27_code (6 : Nat) (Option.none : Option Jvm.ClassFile.FieldType)) ∈ lw_tbl := List.mem_append_right _ (List.mem_of_getElem? (i := 977) (by decide +kernel))
theorem q978 : (Jvm.Cond.constantLong "WindowCacheModel" (213 : Nat) (1000 : Int64)) ∈ lw_tbl := List.mem_append_right _ (List.mem_of_getElem? (i := 978) (by decide +kernel))
theorem q979 : (Jvm.Cond.methodLink "WindowCacheLaw" (61 : Nat) ({ cls := "WindowCacheModel", name := "remove", desc := "(I)I" } : Jvm.MethodName)) ∈ lw_tbl := List.mem_append_right _ (List.mem_of_getElem? (i := 979) (by decide +kernel))
theorem q980 : (Jvm.Cond.instanceMethod ({ cls := "WindowCacheModel", name := "remove", desc := "(I)I" } : Jvm.MethodName)) ∈ lw_tbl := List.mem_append_right _ (List.mem_of_getElem? (i := 980) (by decide +kernel))
theorem q981 : (Jvm.Cond.selects "WindowCacheModel" ({ cls := "WindowCacheModel", name := "remove", desc := "(I)I" } : Jvm.MethodName) ({ cls := "WindowCacheModel", name := "remove", desc := "(I)I" } : Jvm.MethodName)) ∈ lw_tbl := List.mem_append_right _ (List.mem_of_getElem? (i := 981) (by decide +kernel))
theorem q982 : (Jvm.Cond.code ({ cls := "WindowCacheModel", name := "remove", desc := "(I)I" } : Jvm.MethodName) prog_13_method_34_code (5 : Nat) (Option.some Jvm.ClassFile.FieldType.int)) ∈ lw_tbl := List.mem_append_right _ (List.mem_of_getElem? (i := 982) (by decide +kernel))
theorem q983 : (Jvm.Cond.methodLink "WindowCacheLaw" (65 : Nat) ({ cls := "WindowCacheModel", name := "load", desc := "(I)I" } : Jvm.MethodName)) ∈ lw_tbl := List.mem_append_right _ (List.mem_of_getElem? (i := 983) (by decide +kernel))
theorem q984 : (Jvm.Cond.instanceMethod ({ cls := "WindowCacheModel", name := "load", desc := "(I)I" } : Jvm.MethodName)) ∈ lw_tbl := List.mem_append_right _ (List.mem_of_getElem? (i := 984) (by decide +kernel))
theorem q985 : (Jvm.Cond.selects "WindowCacheModel" ({ cls := "WindowCacheModel", name := "load", desc := "(I)I" } : Jvm.MethodName) ({ cls := "WindowCacheModel", name := "load", desc := "(I)I" } : Jvm.MethodName)) ∈ lw_tbl := List.mem_append_right _ (List.mem_of_getElem? (i := 985) (by decide +kernel))
theorem q986 : (Jvm.Cond.code ({ cls := "WindowCacheModel", name := "load", desc := "(I)I" } : Jvm.MethodName) prog_13_method_35_code (3 : Nat) (Option.some Jvm.ClassFile.FieldType.int)) ∈ lw_tbl := List.mem_append_right _ (List.mem_of_getElem? (i := 986) (by decide +kernel))
theorem q987 : (Jvm.Cond.methodLink "WindowCacheLaw" (69 : Nat) ({ cls := "WindowCacheModel", name := "refresh", desc := "(I)Z" } : Jvm.MethodName)) ∈ lw_tbl := List.mem_append_right _ (List.mem_of_getElem? (i := 987) (by decide +kernel))
theorem q988 : (Jvm.Cond.instanceMethod ({ cls := "WindowCacheModel", name := "refresh", desc := "(I)Z" } : Jvm.MethodName)) ∈ lw_tbl := List.mem_append_right _ (List.mem_of_getElem? (i := 988) (by decide +kernel))
theorem q989 : (Jvm.Cond.selects "WindowCacheModel" ({ cls := "WindowCacheModel", name := "refresh", desc := "(I)Z" } : Jvm.MethodName) ({ cls := "WindowCacheModel", name := "refresh", desc := "(I)Z" } : Jvm.MethodName)) ∈ lw_tbl := List.mem_append_right _ (List.mem_of_getElem? (i := 989) (by decide +kernel))
theorem q990 : (Jvm.Cond.code ({ cls := "WindowCacheModel", name := "refresh", desc := "(I)Z" } : Jvm.MethodName) prog_13_method_36_code (2 : Nat) (Option.some Jvm.ClassFile.FieldType.boolean)) ∈ lw_tbl := List.mem_append_right _ (List.mem_of_getElem? (i := 990) (by decide +kernel))
theorem q991 : (Jvm.Cond.methodLink "WindowCacheLaw" (73 : Nat) ({ cls := "WindowCacheModel", name := "finish", desc := "(III)Z" } : Jvm.MethodName)) ∈ lw_tbl := List.mem_append_right _ (List.mem_of_getElem? (i := 991) (by decide +kernel))
theorem q992 : (Jvm.Cond.instanceMethod ({ cls := "WindowCacheModel", name := "finish", desc := "(III)Z" } : Jvm.MethodName)) ∈ lw_tbl := List.mem_append_right _ (List.mem_of_getElem? (i := 992) (by decide +kernel))
theorem q993 : (Jvm.Cond.selects "WindowCacheModel" ({ cls := "WindowCacheModel", name := "finish", desc := "(III)Z" } : Jvm.MethodName) ({ cls := "WindowCacheModel", name := "finish", desc := "(III)Z" } : Jvm.MethodName)) ∈ lw_tbl := List.mem_append_right _ (List.mem_of_getElem? (i := 993) (by decide +kernel))
theorem q994 : (Jvm.Cond.code ({ cls := "WindowCacheModel", name := "finish", desc := "(III)Z" } : Jvm.MethodName) prog_13_method_37_code (7 : Nat) (Option.some Jvm.ClassFile.FieldType.boolean)) ∈ lw_tbl := List.mem_append_right _ (List.mem_of_getElem? (i := 994) (by decide +kernel))
theorem q995 : (Jvm.Cond.methodLink "WindowCacheLaw" (77 : Nat) ({ cls := "WindowCacheModel", name := "fail", desc := "(I)V" } : Jvm.MethodName)) ∈ lw_tbl := List.mem_append_right _ (List.mem_of_getElem? (i := 995) (by decide +kernel))
theorem q996 : (Jvm.Cond.instanceMethod ({ cls := "WindowCacheModel", name := "fail", desc := "(I)V" } : Jvm.MethodName)) ∈ lw_tbl := List.mem_append_right _ (List.mem_of_getElem? (i := 996) (by decide +kernel))
theorem q997 : (Jvm.Cond.selects "WindowCacheModel" ({ cls := "WindowCacheModel", name := "fail", desc := "(I)V" } : Jvm.MethodName) ({ cls := "WindowCacheModel", name := "fail", desc := "(I)V" } : Jvm.MethodName)) ∈ lw_tbl := List.mem_append_right _ (List.mem_of_getElem? (i := 997) (by decide +kernel))
theorem q998 : (Jvm.Cond.code ({ cls := "WindowCacheModel", name := "fail", desc := "(I)V" } : Jvm.MethodName) prog_13_method_38_code (2 : Nat) (Option.none : Option Jvm.ClassFile.FieldType)) ∈ lw_tbl := List.mem_append_right _ (List.mem_of_getElem? (i := 998) (by decide +kernel))
theorem q999 : (Jvm.Cond.methodLink "WindowCacheLaw" (82 : Nat) ({ cls := "WindowCacheModel", name := "advance", desc := "(I)J" } : Jvm.MethodName)) ∈ lw_tbl := List.mem_append_right _ (List.mem_of_getElem? (i := 999) (by decide +kernel))
theorem q1000 : (Jvm.Cond.instanceMethod ({ cls := "WindowCacheModel", name := "advance", desc := "(I)J" } : Jvm.MethodName)) ∈ lw_tbl := List.mem_append_right _ (List.mem_of_getElem? (i := 1000) (by decide +kernel))
theorem q1001 : (Jvm.Cond.selects "WindowCacheModel" ({ cls := "WindowCacheModel", name := "advance", desc := "(I)J" } : Jvm.MethodName) ({ cls := "WindowCacheModel", name := "advance", desc := "(I)J" } : Jvm.MethodName)) ∈ lw_tbl := List.mem_append_right _ (List.mem_of_getElem? (i := 1001) (by decide +kernel))
theorem q1002 : (Jvm.Cond.code ({ cls := "WindowCacheModel", name := "advance", desc := "(I)J" } : Jvm.MethodName) prog_13_method_39_code (2 : Nat) (Option.some Jvm.ClassFile.FieldType.long)) ∈ lw_tbl := List.mem_append_right _ (List.mem_of_getElem? (i := 1002) (by decide +kernel))
theorem q1003 : (Jvm.Cond.constantLong "WindowCacheModel" (264 : Nat) (1099511627776 : Int64)) ∈ lw_tbl := List.mem_append_right _ (List.mem_of_getElem? (i := 1003) (by decide +kernel))
theorem q1004 : (Jvm.Cond.constantLong "WindowCacheModel" (266 : Nat) (-1 : Int64)) ∈ lw_tbl := List.mem_append_right _ (List.mem_of_getElem? (i := 1004) (by decide +kernel))
theorem q1005 : (Jvm.Cond.methodLink "WindowCacheLaw" (86 : Nat) ({ cls := "WindowCacheModel", name := "maintain", desc := "()I" } : Jvm.MethodName)) ∈ lw_tbl := List.mem_append_right _ (List.mem_of_getElem? (i := 1005) (by decide +kernel))
theorem q1006 : (Jvm.Cond.instanceMethod ({ cls := "WindowCacheModel", name := "maintain", desc := "()I" } : Jvm.MethodName)) ∈ lw_tbl := List.mem_append_right _ (List.mem_of_getElem? (i := 1006) (by decide +kernel))
theorem q1007 : (Jvm.Cond.selects "WindowCacheModel" ({ cls := "WindowCacheModel", name := "maintain", desc := "()I" } : Jvm.MethodName) ({ cls := "WindowCacheModel", name := "maintain", desc := "()I" } : Jvm.MethodName)) ∈ lw_tbl := List.mem_append_right _ (List.mem_of_getElem? (i := 1007) (by decide +kernel))
theorem q1008 : (Jvm.Cond.code ({ cls := "WindowCacheModel", name := "maintain", desc := "()I" } : Jvm.MethodName) prog_13_method_40_code (1 : Nat) (Option.some Jvm.ClassFile.FieldType.int)) ∈ lw_tbl := List.mem_append_right _ (List.mem_of_getElem? (i := 1008) (by decide +kernel))
theorem q1009 : (Jvm.Cond.methodLink "WindowCacheLaw" (90 : Nat) ({ cls := "WindowCacheModel", name := "count", desc := "(I)I" } : Jvm.MethodName)) ∈ lw_tbl := List.mem_append_right _ (List.mem_of_getElem? (i := 1009) (by decide +kernel))
theorem q1010 : (Jvm.Cond.instanceMethod ({ cls := "WindowCacheModel", name := "count", desc := "(I)I" } : Jvm.MethodName)) ∈ lw_tbl := List.mem_append_right _ (List.mem_of_getElem? (i := 1010) (by decide +kernel))
theorem q1011 : (Jvm.Cond.selects "WindowCacheModel" ({ cls := "WindowCacheModel", name := "count", desc := "(I)I" } : Jvm.MethodName) ({ cls := "WindowCacheModel", name := "count", desc := "(I)I" } : Jvm.MethodName)) ∈ lw_tbl := List.mem_append_right _ (List.mem_of_getElem? (i := 1011) (by decide +kernel))
theorem q1012 : (Jvm.Cond.code ({ cls := "WindowCacheModel", name := "count", desc := "(I)I" } : Jvm.MethodName) prog_13_method_43_code (2 : Nat) (Option.some Jvm.ClassFile.FieldType.int)) ∈ lw_tbl := List.mem_append_right _ (List.mem_of_getElem? (i := 1012) (by decide +kernel))
theorem q1013 : (Jvm.Cond.methodLink "WindowCacheModel" (268 : Nat) ({ cls := "WindowCacheModel", name := "inMap", desc := "(Z)I" } : Jvm.MethodName)) ∈ lw_tbl := List.mem_append_right _ (List.mem_of_getElem? (i := 1013) (by decide +kernel))
theorem q1015 : (Jvm.Cond.instanceMethod ({ cls := "WindowCacheModel", name := "inMap", desc := "(Z)I" } : Jvm.MethodName)) ∈ lw_tbl := List.mem_append_right _ (List.mem_of_getElem? (i := 1015) (by decide +kernel))
theorem q1016 : (Jvm.Cond.code ({ cls := "WindowCacheModel", name := "inMap", desc := "(Z)I" } : Jvm.MethodName) prog_13_method_41_code (4 : Nat) (Option.some Jvm.ClassFile.FieldType.int)) ∈ lw_tbl := List.mem_append_right _ (List.mem_of_getElem? (i := 1016) (by decide +kernel))
theorem q1017 : (Jvm.Cond.methodLink "WindowCacheModel" (272 : Nat) ({ cls := "WindowCacheModel", name := "onWay", desc := "()I" } : Jvm.MethodName)) ∈ lw_tbl := List.mem_append_right _ (List.mem_of_getElem? (i := 1017) (by decide +kernel))
theorem q1019 : (Jvm.Cond.instanceMethod ({ cls := "WindowCacheModel", name := "onWay", desc := "()I" } : Jvm.MethodName)) ∈ lw_tbl := List.mem_append_right _ (List.mem_of_getElem? (i := 1019) (by decide +kernel))
theorem q1020 : (Jvm.Cond.code ({ cls := "WindowCacheModel", name := "onWay", desc := "()I" } : Jvm.MethodName) prog_13_method_42_code (3 : Nat) (Option.some Jvm.ClassFile.FieldType.int)) ∈ lw_tbl := List.mem_append_right _ (List.mem_of_getElem? (i := 1020) (by decide +kernel))
theorem q1021 : (Jvm.Cond.methodLink "WindowCacheLaw" (94 : Nat) ({ cls := "WindowCacheModel", name := "often", desc := "(I)I" } : Jvm.MethodName)) ∈ lw_tbl := List.mem_append_right _ (List.mem_of_getElem? (i := 1021) (by decide +kernel))
theorem q1022 : (Jvm.Cond.instanceMethod ({ cls := "WindowCacheModel", name := "often", desc := "(I)I" } : Jvm.MethodName)) ∈ lw_tbl := List.mem_append_right _ (List.mem_of_getElem? (i := 1022) (by decide +kernel))
theorem q1023 : (Jvm.Cond.selects "WindowCacheModel" ({ cls := "WindowCacheModel", name := "often", desc := "(I)I" } : Jvm.MethodName) ({ cls := "WindowCacheModel", name := "often", desc := "(I)I" } : Jvm.MethodName)) ∈ lw_tbl := List.mem_append_right _ (List.mem_of_getElem? (i := 1023) (by decide +kernel))
theorem q1024 : (Jvm.Cond.code ({ cls := "WindowCacheModel", name := "often", desc := "(I)I" } : Jvm.MethodName) prog_13_method_44_code (2 : Nat) (Option.some Jvm.ClassFile.FieldType.int)) ∈ lw_tbl := List.mem_append_right _ (List.mem_of_getElem? (i := 1024) (by decide +kernel))
theorem q1025 : (Jvm.Cond.methodLink "WindowCacheLaw" (99 : Nat) ({ cls := "WindowCacheModel", name := "at", desc := "(II)I" } : Jvm.MethodName)) ∈ lw_tbl := List.mem_append_right _ (List.mem_of_getElem? (i := 1025) (by decide +kernel))
theorem q1026 : (Jvm.Cond.instanceMethod ({ cls := "WindowCacheModel", name := "at", desc := "(II)I" } : Jvm.MethodName)) ∈ lw_tbl := List.mem_append_right _ (List.mem_of_getElem? (i := 1026) (by decide +kernel))
theorem q1027 : (Jvm.Cond.selects "WindowCacheModel" ({ cls := "WindowCacheModel", name := "at", desc := "(II)I" } : Jvm.MethodName) ({ cls := "WindowCacheModel", name := "at", desc := "(II)I" } : Jvm.MethodName)) ∈ lw_tbl := List.mem_append_right _ (List.mem_of_getElem? (i := 1027) (by decide +kernel))
theorem q1028 : (Jvm.Cond.code ({ cls := "WindowCacheModel", name := "at", desc := "(II)I" } : Jvm.MethodName) prog_13_method_45_code (6 : Nat) (Option.some Jvm.ClassFile.FieldType.int)) ∈ lw_tbl := List.mem_append_right _ (List.mem_of_getElem? (i := 1028) (by decide +kernel))
theorem q1029 : (Jvm.Cond.methodLink "WindowCacheLaw" (103 : Nat) ({ cls := "WindowCacheModel", name := "listened", desc := "(II)I" } : Jvm.MethodName)) ∈ lw_tbl := List.mem_append_right _ (List.mem_of_getElem? (i := 1029) (by decide +kernel))
theorem q1030 : (Jvm.Cond.instanceMethod ({ cls := "WindowCacheModel", name := "listened", desc := "(II)I" } : Jvm.MethodName)) ∈ lw_tbl := List.mem_append_right _ (List.mem_of_getElem? (i := 1030) (by decide +kernel))
theorem q1031 : (Jvm.Cond.selects "WindowCacheModel" ({ cls := "WindowCacheModel", name := "listened", desc := "(II)I" } : Jvm.MethodName) ({ cls := "WindowCacheModel", name := "listened", desc := "(II)I" } : Jvm.MethodName)) ∈ lw_tbl := List.mem_append_right _ (List.mem_of_getElem? (i := 1031) (by decide +kernel))
theorem q1032 : (Jvm.Cond.code ({ cls := "WindowCacheModel", name := "listened", desc := "(II)I" } : Jvm.MethodName) prog_13_method_46_code (3 : Nat) (Option.some Jvm.ClassFile.FieldType.int)) ∈ lw_tbl := List.mem_append_right _ (List.mem_of_getElem? (i := 1032) (by decide +kernel))
end
section
/-! THE WORLD: one heap, by classes and fields: next address; class of an object; int (and boolean), long and reference fields by class, number, address; arrays -/
abbrev Hp : Type := (Nat × (Nat → Option Nat)) × (Nat → Nat → Nat → Int32) × (Nat → Nat → Nat → Int64) × (Nat → Nat → Nat → Option Nat) × (Nat → Option (Nat × vp_A))
def hp_N (σ : Hp) : Nat := σ.1.1
def hp_C (σ : Hp) (a : Nat) : Option Nat := σ.1.2 a
def hp_I (σ : Hp) (ci k a : Nat) : Int32 := σ.2.1 ci k a
def hp_L (σ : Hp) (ci k a : Nat) : Int64 := σ.2.2.1 ci k a
def hp_R (σ : Hp) (ci k a : Nat) : Option Nat := σ.2.2.2.1 ci k a
def hp_A (σ : Hp) (a : Nat) : Option (Nat × vp_A) := σ.2.2.2.2 a
def up_I (σ : Hp) (ci k a : Nat) (x : Int32) : Hp := (σ.1, fun c j b => if c = ci ∧ j = k ∧ b = a then x else σ.2.1 c j b, σ.2.2)
def up_L (σ : Hp) (ci k a : Nat) (x : Int64) : Hp := (σ.1, σ.2.1, fun c j b => if c = ci ∧ j = k ∧ b = a then x else σ.2.2.1 c j b, σ.2.2.2)
def up_R (σ : Hp) (ci k a : Nat) (x : Option Nat) : Hp := (σ.1, σ.2.1, σ.2.2.1, fun c j b => if c = ci ∧ j = k ∧ b = a then x else σ.2.2.2.1 c j b, σ.2.2.2.2)
def up_A (σ : Hp) (a : Nat) (x : Nat × vp_A) : Hp := (σ.1, σ.2.1, σ.2.2.1, σ.2.2.2.1, fun b => if b = a then some x else σ.2.2.2.2 b)
def nw_O (σ : Hp) (ci : Nat) : Hp := ((σ.1.1 + 1, fun b => if b = σ.1.1 then some ci else σ.1.2 b), fun c j b => if b = σ.1.1 then 0 else σ.2.1 c j b, fun c j b => if b = σ.1.1 then 0 else σ.2.2.1 c j b, fun c j b => if b = σ.1.1 then none else σ.2.2.2.1 c j b, σ.2.2.2.2)
def nw_A (σ : Hp) (x : Nat × vp_A) : Hp := ((σ.1.1 + 1, σ.1.2), σ.2.1, σ.2.2.1, σ.2.2.2.1, fun b => if b = σ.1.1 then some x else σ.2.2.2.2 b)
/-! what a method's text does to it: none where it would throw by itself -/
def is_O (σ : Hp) (r : Option Nat) (ci : Nat) : Option Nat := match r with
  | some a => if hp_C σ a = some ci then some a else none
  | none => none
def ld_I (σ : Hp) (r : Option Nat) (ci k : Nat) : Option Int32 := (is_O σ r ci).map (hp_I σ ci k)
def ld_L (σ : Hp) (r : Option Nat) (ci k : Nat) : Option Int64 := (is_O σ r ci).map (hp_L σ ci k)
def ld_R (σ : Hp) (r : Option Nat) (ci k : Nat) : Option (Option Nat) := (is_O σ r ci).map (hp_R σ ci k)
def st_I (σ : Hp) (r : Option Nat) (ci k : Nat) (x : Int32) : Option Hp := (is_O σ r ci).map fun a => up_I σ ci k a x
def st_Z (σ : Hp) (r : Option Nat) (ci k : Nat) (x : Int32) : Option Hp := if x = 0 ∨ x = 1 then (is_O σ r ci).map fun a => up_I σ ci k a x else none
def st_L (σ : Hp) (r : Option Nat) (ci k : Nat) (x : Int64) : Option Hp := (is_O σ r ci).map fun a => up_L σ ci k a x
def st_R (σ : Hp) (r : Option Nat) (ci k : Nat) (x : Option Nat) : Option Hp := (is_O σ r ci).map fun a => up_R σ ci k a x
def ar_I (σ : Hp) (t : Nat) (r : Option Nat) : Option (Nat × Nat × (Nat → Int32)) := match r with
  | none => none
  | some a => match hp_A σ a with
    | some (t', n, .inl f) => if t' = t then some (a, n, f) else none
    | _ => none
def ar_L (σ : Hp) (t : Nat) (r : Option Nat) : Option (Nat × Nat × (Nat → Int64)) := match r with
  | none => none
  | some a => match hp_A σ a with
    | some (t', n, .inr (.inl f)) => if t' = t then some (a, n, f) else none
    | _ => none
def ar_R (σ : Hp) (t : Nat) (r : Option Nat) : Option (Nat × Nat × (Nat → Option Nat)) := match r with
  | none => none
  | some a => match hp_A σ a with
    | some (t', n, .inr (.inr (.inr (.inr f)))) => if t' = t then some (a, n, f) else none
    | _ => none
def ix_ (i : Int32) (n : Nat) : Option Nat := if i < 0 ∨ n ≤ i.toNatClampNeg then none else some i.toNatClampNeg
def al_I (σ : Hp) (t : Nat) (r : Option Nat) (i : Int32) : Option Int32 := (ar_I σ t r).bind fun q => (ix_ i q.2.1).map q.2.2
def al_L (σ : Hp) (t : Nat) (r : Option Nat) (i : Int32) : Option Int64 := (ar_L σ t r).bind fun q => (ix_ i q.2.1).map q.2.2
def al_R (σ : Hp) (t : Nat) (r : Option Nat) (i : Int32) : Option (Option Nat) := (ar_R σ t r).bind fun q => (ix_ i q.2.1).map q.2.2
def as_I (σ : Hp) (t : Nat) (r : Option Nat) (i x : Int32) : Option Hp := (ar_I σ t r).bind fun q => (ix_ i q.2.1).map fun j => up_A σ q.1 (t, q.2.1, .inl (va_up q.2.2 j x))
def as_Z (σ : Hp) (t : Nat) (r : Option Nat) (i x : Int32) : Option Hp := if x = 0 ∨ x = 1 then as_I σ t r i x else none
def as_L (σ : Hp) (t : Nat) (r : Option Nat) (i : Int32) (x : Int64) : Option Hp := (ar_L σ t r).bind fun q => (ix_ i q.2.1).map fun j => up_A σ q.1 (t, q.2.1, .inr (.inl (va_up q.2.2 j x)))
/-- a reference into an array of references to objects of the class ci: null, or such an object -/
def as_R (σ : Hp) (t ci : Nat) (r : Option Nat) (i : Int32) (x : Option Nat) : Option Hp := if x = none ∨ is_O σ x ci = x then (ar_R σ t r).bind fun q => (ix_ i q.2.1).map fun j => up_A σ q.1 (t, q.2.1, .inr (.inr (.inr (.inr (va_up q.2.2 j x))))) else none
def al_N (σ : Hp) (r : Option Nat) : Option Int32 := match r with
  | none => none
  | some a => match hp_A σ a with
    | some (_, n, _) => some (Int32.ofNat n)
    | none => none
def iushr_ (x y : Int32) : Int32 := (x.toUInt32 >>> (y.toUInt32 &&& Int32.toUInt32 31)).toInt32
theorem obind {α β : Type} {o : Option α} {f : α → Option β} {b : β} (h : o.bind f = some b) : ∃ a, o = some a ∧ f a = some b := by
  cases o with
  | none => cases h
  | some a => exact ⟨a, rfl, h⟩
theorem omap {α β : Type} {o : Option α} {f : α → β} {b : β} (h : o.map f = some b) : ∃ a, o = some a ∧ f a = b := by
  cases o with
  | none => cases h
  | some a => exact ⟨a, rfl, Option.some.inj h⟩
theorem is_O_spec {σ : Hp} {r : Option Nat} {ci a : Nat} (h : is_O σ r ci = some a) : r = some a ∧ hp_C σ a = some ci := by
  unfold is_O at h
  split at h
  · split at h
    · cases h; exact ⟨rfl, by assumption⟩
    · cases h
  · cases h
theorem ar_I_spec {σ : Hp} {r : Option Nat} {t a n : Nat} {f : Nat → Int32} (h : ar_I σ t r = some (a, n, f)) : r = some a ∧ hp_A σ a = some (t, n, .inl f) := by
  unfold ar_I at h
  split at h
  · cases h
  · split at h
    · split at h
      · cases h; subst_vars; exact ⟨rfl, by assumption⟩
      · cases h
    · cases h
theorem ar_L_spec {σ : Hp} {r : Option Nat} {t a n : Nat} {f : Nat → Int64} (h : ar_L σ t r = some (a, n, f)) : r = some a ∧ hp_A σ a = some (t, n, .inr (.inl f)) := by
  unfold ar_L at h
  split at h
  · cases h
  · split at h
    · split at h
      · cases h; subst_vars; exact ⟨rfl, by assumption⟩
      · cases h
    · cases h
theorem ar_R_spec {σ : Hp} {r : Option Nat} {t a n : Nat} {f : Nat → Option Nat} (h : ar_R σ t r = some (a, n, f)) : r = some a ∧ hp_A σ a = some (t, n, .inr (.inr (.inr (.inr f)))) := by
  unfold ar_R at h
  split at h
  · cases h
  · split at h
    · split at h
      · cases h; subst_vars; exact ⟨rfl, by assumption⟩
      · cases h
    · cases h
theorem ix_spec {i : Int32} {n j : Nat} (h : ix_ i n = some j) : vp_in i n ∧ j = i.toNatClampNeg := by
  unfold ix_ at h
  split at h
  · cases h
  · cases h; exact ⟨by assumption, rfl⟩
/-- a field's value -/
def fv (σ : Hp) (ci k a : Nat) : Value := match kY ci k with
  | .int => .int (hp_I σ ci k a)
  | .boolean => .int (hp_I σ ci k a)
  | .long => .long (hp_L σ ci k a)
  | _ => va_rf (hp_R σ ci k a)
abbrev DT : Type := va_G × (Nat → ClassId) × Nat
def tyl (cs : Nat → ClassId) : List (ClassId × FieldType) := [(cs 0, .int), (cs 1, .long), (cs 2, .boolean), (cs 3, .object "WindowCache$Entry"), (cs 4, .object "WindowCache$Way")]
/-- the heap holds the world; its cells lie in A -/
def wld (A : Nat → Prop) (DD : DT) (σ : Hp) (H : Heap) : Prop := H.size = hp_N σ ∧ (∀ a ci, hp_C σ a = some ci → ci < 12 ∧ A a ∧ hp_A σ a = none ∧ t_OB a (DD.1.1 ci) (kN ci) (DD.1.2 ci) H (fun k => fv σ ci k a)) ∧ ∀ a t x, hp_A σ a = some (t, x) → A a ∧ ∃ q, (tyl DD.2.1)[t]? = some q ∧ H[a]? = some (vp_cell q.1 x)
def dm (σ : Hp) : Nat → Prop := fun q => (hp_C σ q ≠ none ∨ hp_A σ q ≠ none) ∨ hp_N σ ≤ q
theorem wld.mono {A B : Nat → Prop} {DD : DT} {σ : Hp} {H : Heap} (h : wld A DD σ H) (hAB : ∀ q, A q → B q) : wld B DD σ H := ⟨h.1, fun a ci hc => ⟨(h.2.1 a ci hc).1, hAB _ (h.2.1 a ci hc).2.1, (h.2.1 a ci hc).2.2⟩, fun a t x hx => ⟨hAB _ (h.2.2 a t x hx).1, (h.2.2 a t x hx).2⟩⟩
theorem wld.self {A : Nat → Prop} {DD : DT} {σ : Hp} {H : Heap} (h : wld A DD σ H) : wld (dm σ) DD σ H := ⟨h.1, fun a ci hc => ⟨(h.2.1 a ci hc).1, Or.inl (Or.inl (by rw [hc]; exact fun z => by cases z)), (h.2.1 a ci hc).2.2⟩, fun a t x hx => ⟨Or.inl (Or.inr (by rw [hx]; exact fun z => by cases z)), (h.2.2 a t x hx).2⟩⟩
theorem wld.in {A : Nat → Prop} {DD : DT} {σ : Hp} {H : Heap} (h : wld A DD σ H) (hA : ∀ q, H.size ≤ q → A q) : ∀ q, dm σ q → A q := by
  intro q hq
  rcases hq with (hq | hq) | hq
  · cases hc : hp_C σ q with
    | none => exact absurd hc hq
    | some ci => exact (h.2.1 q ci hc).2.1
  · cases hc : hp_A σ q with
    | none => exact absurd hc hq
    | some x => exact (h.2.2 q x.1 x.2 hc).1
  · exact hA q (by rw [h.1]; exact hq)
theorem wld.ltC {A : Nat → Prop} {DD : DT} {σ : Hp} {H : Heap} (h : wld A DD σ H) {a ci : Nat} (hc : hp_C σ a = some ci) : a < H.size := by
  obtain ⟨cell, h1, -⟩ := (h.2.1 a ci hc).2.2.2
  exact (Array.getElem?_eq_some_iff.mp h1).1
theorem wld.ltA {A : Nat → Prop} {DD : DT} {σ : Hp} {H : Heap} (h : wld A DD σ H) {a : Nat} {x : Nat × vp_A} (hc : hp_A σ a = some x) : a < H.size := by
  obtain ⟨q, -, h1⟩ := (h.2.2 a x.1 x.2 hc).2
  exact (Array.getElem?_eq_some_iff.mp h1).1
/-- one field written -/
def ptR (σ σ' : Hp) (ci k a : Nat) (v : Value) : Prop := hp_N σ' = hp_N σ ∧ (∀ b, hp_C σ' b = hp_C σ b) ∧ (∀ b, hp_A σ' b = hp_A σ b) ∧ ∀ c j b, fv σ' c j b = if c = ci ∧ j = k ∧ b = a then v else fv σ c j b
theorem wld.put {A : Nat → Prop} {DD : DT} {σ σ' : Hp} {H H1 : Heap} {ci k a : Nat} {v : Value} (h : wld A DD σ H) (hc : hp_C σ a = some ci) (hp : ptR σ σ' ci k a v) (hz : H1.size = H.size) (oq : ∀ q : Nat, q ≠ a → H1[q]? = H[q]?) (ho : t_OB a (DD.1.1 ci) (kN ci) (DD.1.2 ci) H1 (updV (fun j => fv σ ci j a) k v)) : wld A DD σ' H1 := by
  obtain ⟨p1, p2, p3, p4⟩ := hp
  refine ⟨by rw [hz, h.1, p1], fun b cb hb => ?_, fun b t x hb => ?_⟩
  · rw [p2] at hb
    obtain ⟨g1, g2, g3, g4⟩ := h.2.1 b cb hb
    refine ⟨g1, g2, by rw [p3]; exact g3, ?_⟩
    by_cases hba : b = a
    · subst hba
      cases hc.symm.trans hb
      refine ho.to fun j _ => ?_
      rw [p4]
      by_cases hj : j = k
      · subst hj; simp [updV]
      · simp [updV, hj]
    · refine (g4.kept (oq b hba)).to fun j _ => ?_
      rw [p4, if_neg (fun z => hba z.2.2)]
  · rw [p3] at hb
    obtain ⟨g1, q, g2, g3⟩ := h.2.2 b t x hb
    refine ⟨g1, q, g2, ?_⟩
    by_cases hba : b = a
    · subst hba
      rw [(h.2.1 b ci hc).2.2.1] at hb
      cases hb
    · rw [oq b hba]; exact g3
theorem ptR_I {σ : Hp} {ci k a : Nat} {x : Int32} (hty : kY ci k = .int ∨ kY ci k = .boolean) : ptR σ (up_I σ ci k a x) ci k a (.int x) := by
  refine ⟨rfl, fun _ => rfl, fun _ => rfl, fun c j b => ?_⟩
  by_cases hx : c = ci ∧ j = k ∧ b = a
  · obtain ⟨rfl, rfl, rfl⟩ := hx
    rcases hty with hty | hty <;> simp [fv, hty, hp_I, up_I]
  · rw [if_neg hx]
    simp only [fv, hp_I, hp_L, hp_R, up_I]
    cases kY c j <;> simp [hx]
theorem ptR_L {σ : Hp} {ci k a : Nat} {x : Int64} (hty : kY ci k = .long) : ptR σ (up_L σ ci k a x) ci k a (.long x) := by
  refine ⟨rfl, fun _ => rfl, fun _ => rfl, fun c j b => ?_⟩
  by_cases hx : c = ci ∧ j = k ∧ b = a
  · obtain ⟨rfl, rfl, rfl⟩ := hx
    simp [fv, hty, hp_L, up_L]
  · rw [if_neg hx]
    simp only [fv, hp_I, hp_L, hp_R, up_L]
    cases kY c j <;> simp [hx]
def isR (t : FieldType) : Bool := match t with
  | .object _ => true
  | .array _ => true
  | _ => false
theorem ptR_R {σ : Hp} {ci k a : Nat} {x : Option Nat} (hty : isR (kY ci k) = true) : ptR σ (up_R σ ci k a x) ci k a (va_rf x) := by
  refine ⟨rfl, fun _ => rfl, fun _ => rfl, fun c j b => ?_⟩
  by_cases hx : c = ci ∧ j = k ∧ b = a
  · obtain ⟨rfl, rfl, rfl⟩ := hx
    cases h : kY c j <;> rw [h] at hty <;> first | (simp [fv, h, hp_R, up_R]; done) | cases hty
  · rw [if_neg hx]
    simp only [fv, hp_I, hp_L, hp_R, up_R]
    cases kY c j <;> simp [hx]
/-- an array written -/
theorem wld.arr {A : Nat → Prop} {DD : DT} {σ : Hp} {H H1 : Heap} {a t : Nat} {x y : vp_A} {q : ClassId × FieldType} (h : wld A DD σ H) (hc : hp_A σ a = some (t, x)) (hq : (tyl DD.2.1)[t]? = some q) (hz : H1.size = H.size) (oq : ∀ q : Nat, q ≠ a → H1[q]? = H[q]?) (ho : H1[a]? = some (vp_cell q.1 y)) : wld A DD (up_A σ a (t, y)) H1 := by
  refine ⟨hz.trans h.1, fun b cb hb => ?_, fun b t' x' hb => ?_⟩
  · obtain ⟨g1, g2, g3, g4⟩ := h.2.1 b cb hb
    have hba : b ≠ a := fun z => by subst z; rw [g3] at hc; cases hc
    exact ⟨g1, g2, by show (if b = a then some (t, y) else hp_A σ b) = none; rw [if_neg hba]; exact g3, g4.kept (oq b hba)⟩
  · by_cases hba : b = a
    · subst hba
      have hb' : (if b = b then some (t, y) else hp_A σ b) = some (t', x') := hb
      rw [if_pos rfl] at hb'
      cases hb'
      exact ⟨(h.2.2 b t x hc).1, q, hq, ho⟩
    · have hb' : (if b = a then some (t, y) else hp_A σ b) = some (t', x') := hb
      rw [if_neg hba] at hb'
      obtain ⟨g1, r, g2, g3⟩ := h.2.2 b t' x' hb'
      exact ⟨g1, r, g2, by rw [oq b hba]; exact g3⟩
/-- an object made -/
theorem fv_nwO_old {σ : Hp} {ci c j b : Nat} (h : b ≠ hp_N σ) : fv (nw_O σ ci) c j b = fv σ c j b := by
  have h' : ¬ b = σ.1.1 := h
  simp only [fv, hp_I, hp_L, hp_R, nw_O, if_neg h']
theorem fv_nwO_new {σ : Hp} {ci j : Nat} (hty : kY ci j = .int ∨ kY ci j = .boolean ∨ kY ci j = .long ∨ isR (kY ci j) = true) : fv (nw_O σ ci) ci j (hp_N σ) = defaultValue (kY ci j) := by
  rcases hty with h | h | h | h
  · simp [fv, h, hp_I, nw_O, hp_N, defaultValue]
  · simp [fv, h, hp_I, nw_O, hp_N, defaultValue]
  · simp [fv, h, hp_L, nw_O, hp_N, defaultValue]
  · cases h2 : kY ci j <;> rw [h2] at h <;> first | (simp [fv, h2, hp_R, nw_O, hp_N, defaultValue, va_rf]; done) | cases h
theorem wld.newO {A : Nat → Prop} {DD : DT} {σ : Hp} {H H1 : Heap} {ci : Nat} (h : wld A DD σ H) (hci : ci < 12) (hA : A H.size) (hz : H1.size = H.size + 1) (oq : ∀ q : Nat, q < H.size → H1[q]? = H[q]?) (ho : t_OB H.size (DD.1.1 ci) (kN ci) (DD.1.2 ci) H1 (fun k => fv (nw_O σ ci) ci k H.size)) : wld A DD (nw_O σ ci) H1 := by
  have hN : H.size = hp_N σ := h.1
  refine ⟨by rw [hz, hN]; rfl, fun b cb hb => ?_, fun b t x hb => ?_⟩
  · by_cases hba : b = hp_N σ
    · subst hba
      have hb' : (if hp_N σ = hp_N σ then some ci else hp_C σ (hp_N σ)) = some cb := hb
      rw [if_pos rfl] at hb'
      cases hb'
      refine ⟨hci, hN ▸ hA, ?_, hN ▸ ho⟩
      cases hx : hp_A σ (hp_N σ) with
      | none => exact hx
      | some x => exact absurd (h.ltA hx) (by rw [hN]; exact Nat.lt_irrefl _)
    · have hb' : (if b = hp_N σ then some ci else hp_C σ b) = some cb := hb
      rw [if_neg hba] at hb'
      obtain ⟨g1, g2, g3, g4⟩ := h.2.1 b cb hb'
      exact ⟨g1, g2, g3, (g4.kept (oq b (h.ltC hb'))).to fun j _ => (fv_nwO_old hba).symm⟩
  · obtain ⟨g1, q, g2, g3⟩ := h.2.2 b t x hb
    exact ⟨g1, q, g2, by rw [oq b (h.ltA (x := (t, x)) hb)]; exact g3⟩
/-- an array made -/
theorem wld.newA {A : Nat → Prop} {DD : DT} {σ : Hp} {H H1 : Heap} {t : Nat} {y : vp_A} {q : ClassId × FieldType} (h : wld A DD σ H) (hA : A H.size) (hq : (tyl DD.2.1)[t]? = some q) (hz : H1.size = H.size + 1) (oq : ∀ q : Nat, q < H.size → H1[q]? = H[q]?) (ho : H1[H.size]? = some (vp_cell q.1 y)) : wld A DD (nw_A σ (t, y)) H1 := by
  have hN : H.size = hp_N σ := h.1
  refine ⟨by rw [hz, hN]; rfl, fun b cb hb => ?_, fun b t' x' hb => ?_⟩
  · obtain ⟨g1, g2, g3, g4⟩ := h.2.1 b cb hb
    have hlt := h.ltC hb
    exact ⟨g1, g2, by show (if b = hp_N σ then some (t, y) else hp_A σ b) = none; rw [if_neg (by omega)]; exact g3, g4.kept (oq b hlt)⟩
  · by_cases hba : b = hp_N σ
    · subst hba
      have hb' : (if hp_N σ = hp_N σ then some (t, y) else hp_A σ (hp_N σ)) = some (t', x') := hb
      rw [if_pos rfl] at hb'
      cases hb'
      exact ⟨hN ▸ hA, q, hq, hN ▸ ho⟩
    · have hb' : (if b = hp_N σ then some (t, y) else hp_A σ b) = some (t', x') := hb
      rw [if_neg hba] at hb'
      obtain ⟨g1, r, g2, g3⟩ := h.2.2 b t' x' hb'
      exact ⟨g1, r, g2, by rw [oq b (h.ltA (x := (t', x')) hb')]; exact g3⟩
/-! the words; what a state knows -/
def TW (args : Array Value) (s : State) : Prop := ∀ w ∈ lw_tbl, goodWord w = true → w.before args s = true
def wsM (y : MethodName) (cc : ByteArray) (n : Nat) (ret : Option FieldType) : List Cond := .code y cc n ret :: lw_tbl.filter goodWord
theorem TW_of {y : MethodName} {cc : ByteArray} {n : Nat} {ret : Option FieldType} {args : Array Value} {s : State} (h : ∀ w ∈ wsM y cc n ret, w.before args s = true) : TW args s := fun w hw hg => h w (List.mem_cons_of_mem _ (List.mem_filter.mpr ⟨hw, hg⟩))
theorem TW_back {args : Array Value} {s : State} (h : TW args s) {y : MethodName} {cc : ByteArray} {n : Nat} {ret : Option FieldType} (hc : Cond.code y cc n ret ∈ lw_tbl) : ∀ w ∈ wsM y cc n ret, w.before args s = true := by
  intro w hw
  rcases List.mem_cons.mp hw with rfl | hw
  · exact h _ hc rfl
  · exact h w (List.mem_filter.mp hw).1 (List.mem_filter.mp hw).2
theorem wsM_good {y : MethodName} {cc : ByteArray} {n : Nat} {ret : Option FieldType} (hc : Cond.code y cc n ret ∈ lw_tbl) : GoodIn (lw_tbl.filter goodWord) (wsM y cc n ret) := by
  intro w hw
  rcases List.mem_cons.mp hw with rfl | hw
  · exact ⟨List.mem_filter.mpr ⟨hc, rfl⟩, good_of_word rfl⟩
  · exact ⟨hw, good_of_word (List.mem_filter.mp hw).2⟩
def nests : List Cond := [.methodLinkNest "WindowCache" 23 ⟨"WindowCache$Notes", "<init>", "()V"⟩ "WindowCache", .methodLinkNest "WindowCache" 33 ⟨"WindowCache$Tasks", "<init>", "()V"⟩ "WindowCache", .methodLinkNest "WindowCache" 40 ⟨"WindowCache$Log", "<init>", "()V"⟩ "WindowCache", .methodLinkNest "WindowCache$Rooms" 9 ⟨"WindowCache$Room", "<init>", "()V"⟩ "WindowCache"]
def oddn (j : Nat) : Int32 := match j with
  | 0 => -1640531527
  | 1 => -2048144777
  | 2 => -1028477379
  | _ => 668265263
def oddv (j : Nat) : Value := .int (oddn j)
/-- a static that holds a reference or null, as the machine's own makers of exceptions read it -/
def ST (C n d : String) (A : Nat → Prop) (U : State) (H : Heap) : Prop := ∃ (c : ClassId) (k : Class) (i : Nat) (f : Field) (a : Nat) (cell : Cell) (v : Value), U.vm.findClass C = some c ∧ U.fieldFound? C n d = some (c, k, i, f) ∧ f.isStatic = true ∧ k.statics = some a ∧ k.staticTypes[f.slot]? = some f.type ∧ H[a]? = some cell ∧ cell.vm.isStatics = true ∧ cell.cls = c ∧ f.slot < cell.slots.size ∧ cell.slots[f.slot]? = some v ∧ (v = .null ∨ ∃ t, v = .ref t) ∧ ¬ A a
theorem ST.to {C n d : String} {A B : Nat → Prop} {u U : State} {H H1 : Heap} (h : ST C n d A u H) (hvm : u.vm.Alike U.vm) (hq : ∀ a : Nat, a < H.size → ¬ A a → H1[a]? = H[a]?) (hAB : ∀ q, B q → A q) : ST C n d B U H1 := by
  obtain ⟨c, k, i, f, a, cell, v, h1, h2, h3, h4, h5, h6, h7, h8, h9, h10, h11, h12⟩ := h
  obtain ⟨k', hi', he⟩ := State.fieldFound?_setVm hvm h2
  exact ⟨c, k', i, f, a, cell, v, by rw [hvm.findClass]; exact h1, hi', h3, by rw [he]; exact h4, by rw [he]; exact h5, by rw [hq a (Array.getElem?_eq_some_iff.mp h6).1 h12]; exact h6, h7, h8, h9, h10, h11, fun z => h12 (hAB a z)⟩
theorem ST.lays {C n d : String} {A : Nat → Prop} {U : State} {args : Array Value} (h : ST C n d A U U.heap) : (Cond.laysStatic C n d).before args U = true := by
  obtain ⟨c, k, i, f, a, cell, v, h1, h2, h3, h4, h5, h6, h7, h8, h9, h10, h11, h12⟩ := h
  simp [Cond.before, Cond.holds, Cond.value, h1, h2, h3, h4, h5, h6, h7, h8, h9]
theorem ST.isRef {C n d : String} {A : Nat → Prop} {U : State} {args : Array Value} (h : ST C n d A U U.heap) : (Cond.isRef (.static C n d)).before args U = true := by
  obtain ⟨c, k, i, f, a, cell, v, h1, h2, h3, h4, h5, h6, h7, h8, h9, h10, h11, h12⟩ := h
  have e : (Term.static C n d).eval args U none [] U = some v := by simp [Term.eval, State.fieldNamed?, h2, h3, h4, h6, h7, h10]
  rcases h11 with rfl | ⟨t, rfl⟩ <;> simp [Cond.before, Cond.holds, Cond.value, e]
theorem ST.of {C n d : String} {A : Nat → Prop} {s : State} {args : Array Value} (hl : (Cond.laysStatic C n d).before args s = true) (hr : (Cond.isRef (.static C n d)).before args s = true) (hA : ∀ a : Nat, a < s.heap.size → ¬ A a) : ST C n d A s s.heap := by
  obtain ⟨c, k, i, f, a, cell, hc, hi, hst, ha, hcell, hs, hcls, hlt, hty⟩ := Cond.laysStatic_spec hl
  obtain ⟨v, hv⟩ : ∃ v, cell.slots[f.slot]? = some v := ⟨cell.slots[f.slot], by simp [hlt]⟩
  have e : (Term.static C n d).eval args s none [] s = some v := by simp [Term.eval, State.fieldNamed?, hi, hst, ha, hcell, hs, hv]
  refine ⟨c, k, i, f, a, cell, v, hc, hi, hst, ha, hty, hcell, hs, hcls, hlt, hv, ?_, hA a (Array.getElem?_eq_some_iff.mp hcell).1⟩
  simp only [Cond.before, Cond.holds, Cond.value, e] at hr
  cases v with
  | null => exact Or.inl rfl
  | ref t => exact Or.inr ⟨t, rfl⟩
  | _ => simp at hr
def decls : List Cond := [.declares ⟨"java/lang/RuntimeException", "<init>", "()V"⟩, .declares ⟨"java/lang/Exception", "<init>", "()V"⟩, .declares ⟨"java/lang/Throwable", "<init>", "()V"⟩]
/-- the two exceptions that are thrown: the name of each -/
def xn (k : Nat) : String := match k with
  | 0 => "java/lang/IllegalArgumentException"
  | _ => "java/lang/IllegalStateException"
def XC (U : State) : Prop := ∃ c : Nat → ClassId, ∀ j k, j < 2 → k < 2 → U.vm.findClass (xn j) = some (c j) ∧ U.vm.assignable (c j) (c k) = decide (j = k)
theorem XC.moved {u U : State} (hvm : u.vm.Alike U.vm) (h : XC u) : XC U := by
  obtain ⟨c, h⟩ := h
  exact ⟨c, fun j k hj hk => ⟨by rw [hvm.findClass]; exact (h j k hj hk).1, by rw [hvm.assignable]; exact (h j k hj hk).2⟩⟩
theorem XC.cast {U : State} {args : Array Value} (h : XC U) {k : Nat} (hk : k < 2) : (Cond.castable (xn k) (xn k)).before args U = true := by
  obtain ⟨c, h⟩ := h
  obtain ⟨h1, h2⟩ := h k k hk hk
  simp [Cond.before, Cond.holds, Cond.value, h1, h2]
def XK (A : Nat → Prop) (U : State) : Prop := ST "java/lang/Throwable" "UNASSIGNED_STACK" "[Ljava/lang/StackTraceElement;" A U U.heap ∧ ST "java/lang/Throwable" "SUPPRESSED_SENTINEL" "Ljava/util/List;" A U U.heap ∧ (∀ w ∈ decls, va_Nw w U) ∧ XC U
def KN (DD : DT) (A : Nat → Prop) (U : State) : Prop := va_K DD.1 kcl (tyl DD.2.1) U ∧ (∀ w ∈ nests, va_Nw w U) ∧ va_AO "WindowCache$Entry" U ∧ va_AO "WindowCache$Way" U ∧ va_Z "WindowCache$Counts" "ODD" "[I" (.ref DD.2.2) A U U.heap ∧ va_T .int DD.2.2 4 oddv A U U.heap ∧ XK A U
theorem KN.to {DD : DT} {A B : Nat → Prop} {s U : State} {H : Heap} {locs : List Loc} (h : KN DD A s) (hU : U.heap = H) (hS : va_S A s.heap H locs) (hW : s.WarmedH U.vm) (hAB : ∀ q, B q → A q) : KN DD B U := by
  obtain ⟨h1, h2, h3, h4, h5, h6, h7, h8, h9, h10⟩ := h
  have hk : ∀ a : Nat, a < s.heap.size → ¬ A a → U.heap[a]? = s.heap[a]? := fun a q1 q2 => by rw [hU]; exact hS.2.1 a q1 q2
  refine ⟨va_K.moved hW.alike h1, fun w hw => ?_, va_AO.moved hW.alike h3, va_AO.moved hW.alike h4, ((va_Z.moved hW.alike (h5.kept hk)).narrow hAB), ((va_T.moved hW.alike (h6.kept hk)).narrow hAB), h7.to hW.alike hk hAB, h8.to hW.alike hk hAB, fun w hw => ?_, h10.moved hW.alike⟩
  · have hw' := h2 w hw
    simp only [nests, List.mem_cons, List.not_mem_nil, or_false] at hw
    rcases hw with rfl | rfl | rfl | rfl <;> exact va_Nw.warmM hW hw'
  · have hw' := h9 w hw
    simp only [decls, List.mem_cons, List.not_mem_nil, or_false] at hw
    rcases hw with rfl | rfl | rfl <;> exact va_Nw.warmD hW hw'
end
section
theorem ky_in0 : ∀ w ∈ u_ws (kR 0) (kT 0) (kN 0), w ∈ lw_tbl ∧ goodWord w = true := by
  intro w hw
  obtain ⟨k, hk, rfl⟩ := List.mem_map.mp hw
  have hk : k < 15 := List.mem_range.mp hk
  exact match k, hk with
  | 0, _ => ⟨q236, rfl⟩
  | 1, _ => ⟨q238, rfl⟩
  | 2, _ => ⟨q240, rfl⟩
  | 3, _ => ⟨q242, rfl⟩
  | 4, _ => ⟨q244, rfl⟩
  | 5, _ => ⟨q246, rfl⟩
  | 6, _ => ⟨q248, rfl⟩
  | 7, _ => ⟨q250, rfl⟩
  | 8, _ => ⟨q252, rfl⟩
  | 9, _ => ⟨q254, rfl⟩
  | 10, _ => ⟨q256, rfl⟩
  | 11, _ => ⟨q258, rfl⟩
  | 12, _ => ⟨q260, rfl⟩
  | 13, _ => ⟨q262, rfl⟩
  | 14, _ => ⟨q264, rfl⟩
  | k + 15, hk => absurd hk (by omega)
theorem ky_in1 : ∀ w ∈ u_ws (kR 1) (kT 1) (kN 1), w ∈ lw_tbl ∧ goodWord w = true := by
  intro w hw
  obtain ⟨k, hk, rfl⟩ := List.mem_map.mp hw
  have hk : k < 9 := List.mem_range.mp hk
  exact match k, hk with
  | 0, _ => ⟨q202, rfl⟩
  | 1, _ => ⟨q204, rfl⟩
  | 2, _ => ⟨q206, rfl⟩
  | 3, _ => ⟨q208, rfl⟩
  | 4, _ => ⟨q210, rfl⟩
  | 5, _ => ⟨q212, rfl⟩
  | 6, _ => ⟨q214, rfl⟩
  | 7, _ => ⟨q216, rfl⟩
  | 8, _ => ⟨q218, rfl⟩
  | k + 9, hk => absurd hk (by omega)
theorem ky_in2 : ∀ w ∈ u_ws (kR 2) (kT 2) (kN 2), w ∈ lw_tbl ∧ goodWord w = true := by
  intro w hw
  obtain ⟨k, hk, rfl⟩ := List.mem_map.mp hw
  have hk : k < 3 := List.mem_range.mp hk
  exact match k, hk with
  | 0, _ => ⟨q125, rfl⟩
  | 1, _ => ⟨q127, rfl⟩
  | 2, _ => ⟨q129, rfl⟩
  | k + 3, hk => absurd hk (by omega)
theorem ky_in3 : ∀ w ∈ u_ws (kR 3) (kT 3) (kN 3), w ∈ lw_tbl ∧ goodWord w = true := by
  intro w hw
  obtain ⟨k, hk, rfl⟩ := List.mem_map.mp hw
  have hk : k < 11 := List.mem_range.mp hk
  exact match k, hk with
  | 0, _ => ⟨q625, rfl⟩
  | 1, _ => ⟨q627, rfl⟩
  | 2, _ => ⟨q629, rfl⟩
  | 3, _ => ⟨q631, rfl⟩
  | 4, _ => ⟨q633, rfl⟩
  | 5, _ => ⟨q635, rfl⟩
  | 6, _ => ⟨q637, rfl⟩
  | 7, _ => ⟨q639, rfl⟩
  | 8, _ => ⟨q641, rfl⟩
  | 9, _ => ⟨q643, rfl⟩
  | 10, _ => ⟨q645, rfl⟩
  | k + 11, hk => absurd hk (by omega)
theorem ky_in4 : ∀ w ∈ u_ws (kR 4) (kT 4) (kN 4), w ∈ lw_tbl ∧ goodWord w = true := by
  intro w hw
  obtain ⟨k, hk, rfl⟩ := List.mem_map.mp hw
  have hk : k < 3 := List.mem_range.mp hk
  exact match k, hk with
  | 0, _ => ⟨q108, rfl⟩
  | 1, _ => ⟨q110, rfl⟩
  | 2, _ => ⟨q112, rfl⟩
  | k + 3, hk => absurd hk (by omega)
theorem ky_in5 : ∀ w ∈ u_ws (kR 5) (kT 5) (kN 5), w ∈ lw_tbl ∧ goodWord w = true := by
  intro w hw
  obtain ⟨k, hk, rfl⟩ := List.mem_map.mp hw
  have hk : k < 4 := List.mem_range.mp hk
  exact match k, hk with
  | 0, _ => ⟨q83, rfl⟩
  | 1, _ => ⟨q85, rfl⟩
  | 2, _ => ⟨q87, rfl⟩
  | 3, _ => ⟨q89, rfl⟩
  | k + 4, hk => absurd hk (by omega)
theorem ky_in6 : ∀ w ∈ u_ws (kR 6) (kT 6) (kN 6), w ∈ lw_tbl ∧ goodWord w = true := by
  intro w hw
  obtain ⟨k, hk, rfl⟩ := List.mem_map.mp hw
  have hk : k < 3 := List.mem_range.mp hk
  exact match k, hk with
  | 0, _ => ⟨q45, rfl⟩
  | 1, _ => ⟨q47, rfl⟩
  | 2, _ => ⟨q49, rfl⟩
  | k + 3, hk => absurd hk (by omega)
theorem ky_in7 : ∀ w ∈ u_ws (kR 7) (kT 7) (kN 7), w ∈ lw_tbl ∧ goodWord w = true := by
  intro w hw
  obtain ⟨k, hk, rfl⟩ := List.mem_map.mp hw
  have hk : k < 4 := List.mem_range.mp hk
  exact match k, hk with
  | 0, _ => ⟨q152, rfl⟩
  | 1, _ => ⟨q154, rfl⟩
  | 2, _ => ⟨q156, rfl⟩
  | 3, _ => ⟨q158, rfl⟩
  | k + 4, hk => absurd hk (by omega)
theorem ky_in8 : ∀ w ∈ u_ws (kR 8) (kT 8) (kN 8), w ∈ lw_tbl ∧ goodWord w = true := by
  intro w hw
  obtain ⟨k, hk, rfl⟩ := List.mem_map.mp hw
  have hk : k < 5 := List.mem_range.mp hk
  exact match k, hk with
  | 0, _ => ⟨q172, rfl⟩
  | 1, _ => ⟨q174, rfl⟩
  | 2, _ => ⟨q176, rfl⟩
  | 3, _ => ⟨q178, rfl⟩
  | 4, _ => ⟨q180, rfl⟩
  | k + 5, hk => absurd hk (by omega)
theorem ky_in9 : ∀ w ∈ u_ws (kR 9) (kT 9) (kN 9), w ∈ lw_tbl ∧ goodWord w = true := by
  intro w hw
  obtain ⟨k, hk, rfl⟩ := List.mem_map.mp hw
  have hk : k < 3 := List.mem_range.mp hk
  exact match k, hk with
  | 0, _ => ⟨q65, rfl⟩
  | 1, _ => ⟨q67, rfl⟩
  | 2, _ => ⟨q69, rfl⟩
  | k + 3, hk => absurd hk (by omega)
theorem ky_in10 : ∀ w ∈ u_ws (kR 10) (kT 10) (kN 10), w ∈ lw_tbl ∧ goodWord w = true := by
  intro w hw
  obtain ⟨k, hk, rfl⟩ := List.mem_map.mp hw
  have hk : k < 2 := List.mem_range.mp hk
  exact match k, hk with
  | 0, _ => ⟨q462, rfl⟩
  | 1, _ => ⟨q464, rfl⟩
  | k + 2, hk => absurd hk (by omega)
theorem ky_in11 : ∀ w ∈ u_ws (kR 11) (kT 11) (kN 11), w ∈ lw_tbl ∧ goodWord w = true := by
  intro w hw
  obtain ⟨k, hk, rfl⟩ := List.mem_map.mp hw
  have hk : k < 49 := List.mem_range.mp hk
  exact match k, hk with
  | 0, _ => ⟨q753, rfl⟩
  | 1, _ => ⟨q755, rfl⟩
  | 2, _ => ⟨q757, rfl⟩
  | 3, _ => ⟨q759, rfl⟩
  | 4, _ => ⟨q761, rfl⟩
  | 5, _ => ⟨q763, rfl⟩
  | 6, _ => ⟨q765, rfl⟩
  | 7, _ => ⟨q767, rfl⟩
  | 8, _ => ⟨q769, rfl⟩
  | 9, _ => ⟨q771, rfl⟩
  | 10, _ => ⟨q773, rfl⟩
  | 11, _ => ⟨q775, rfl⟩
  | 12, _ => ⟨q777, rfl⟩
  | 13, _ => ⟨q779, rfl⟩
  | 14, _ => ⟨q781, rfl⟩
  | 15, _ => ⟨q783, rfl⟩
  | 16, _ => ⟨q785, rfl⟩
  | 17, _ => ⟨q787, rfl⟩
  | 18, _ => ⟨q789, rfl⟩
  | 19, _ => ⟨q791, rfl⟩
  | 20, _ => ⟨q793, rfl⟩
  | 21, _ => ⟨q795, rfl⟩
  | 22, _ => ⟨q797, rfl⟩
  | 23, _ => ⟨q799, rfl⟩
  | 24, _ => ⟨q801, rfl⟩
  | 25, _ => ⟨q803, rfl⟩
  | 26, _ => ⟨q805, rfl⟩
  | 27, _ => ⟨q807, rfl⟩
  | 28, _ => ⟨q809, rfl⟩
  | 29, _ => ⟨q811, rfl⟩
  | 30, _ => ⟨q813, rfl⟩
  | 31, _ => ⟨q815, rfl⟩
  | 32, _ => ⟨q817, rfl⟩
  | 33, _ => ⟨q819, rfl⟩
  | 34, _ => ⟨q821, rfl⟩
  | 35, _ => ⟨q823, rfl⟩
  | 36, _ => ⟨q825, rfl⟩
  | 37, _ => ⟨q827, rfl⟩
  | 38, _ => ⟨q829, rfl⟩
  | 39, _ => ⟨q831, rfl⟩
  | 40, _ => ⟨q833, rfl⟩
  | 41, _ => ⟨q835, rfl⟩
  | 42, _ => ⟨q837, rfl⟩
  | 43, _ => ⟨q839, rfl⟩
  | 44, _ => ⟨q841, rfl⟩
  | 45, _ => ⟨q843, rfl⟩
  | 46, _ => ⟨q845, rfl⟩
  | 47, _ => ⟨q847, rfl⟩
  | 48, _ => ⟨q849, rfl⟩
  | k + 49, hk => absurd hk (by omega)
theorem ky_in {c : Nat} (h : c < 12) : ∀ w ∈ u_ws (kR c) (kT c) (kN c), w ∈ lw_tbl ∧ goodWord w = true := by
  rcases (show c = 0 ∨ c = 1 ∨ c = 2 ∨ c = 3 ∨ c = 4 ∨ c = 5 ∨ c = 6 ∨ c = 7 ∨ c = 8 ∨ c = 9 ∨ c = 10 ∨ c = 11 by omega) with rfl | rfl | rfl | rfl | rfl | rfl | rfl | rfl | rfl | rfl | rfl | rfl
  · exact ky_in0
  · exact ky_in1
  · exact ky_in2
  · exact ky_in3
  · exact ky_in4
  · exact ky_in5
  · exact ky_in6
  · exact ky_in7
  · exact ky_in8
  · exact ky_in9
  · exact ky_in10
  · exact ky_in11
end
section
/-! typed values on the stack and in the locals -/
abbrev TV : Type := Int32 ⊕ Int64 ⊕ Option Nat
abbrev tI (x : Int32) : TV := Sum.inl x
abbrev tL (x : Int64) : TV := Sum.inr (Sum.inl x)
abbrev tR (x : Option Nat) : TV := Sum.inr (Sum.inr x)
def tv (x : TV) : Value := match x with
  | .inl v => .int v
  | .inr (.inl v) => .long v
  | .inr (.inr r) => va_rf r
def tw_ (x : TV) : Nat := match x with
  | .inl _ => 1
  | .inr (.inl _) => 2
  | .inr (.inr _) => 1
theorem tv_cat (x : TV) : (tv x).category = tw_ x := by
  rcases x with x | x | x
  · rfl
  · rfl
  · cases x <;> rfl
theorem tv_cats (l : List TV) : ((l.map tv).map fun v => v.category).sum = (l.map tw_).sum := by
  induction l with
  | nil => rfl
  | cons a l ih => simp only [List.map_cons, List.sum_cons, ih, tv_cat]
def lvm (l : List (Nat × TV)) : List (Nat × Value) := l.map fun q => (q.1, tv q.2)
theorem lvm_at {l : List (Nat × TV)} {j i : Nat} {x : TV} (h : l[j]? = some (i, x)) : (lvm l)[j]? = some (i, tv x) := by simp [lvm, h]
theorem lv_mono {ls : Array Slot} {nL : Nat} {l l' : List (Nat × Value)} (h : lv_has ls nL l) (hs : ∀ q ∈ l', q ∈ l) : lv_has ls nL l' := ⟨h.1, h.2.1, fun q hq => h.2.2 q (hs q hq)⟩
def tv_pick (l : List (Nat × TV)) (ks : List Nat) : List (Nat × TV) := ks.filterMap (fun k => l[k]?)
theorem tv_pick_sub {l l' : List (Nat × TV)} {ks : List Nat} (h : tv_pick l ks = l') : ∀ q ∈ l', q ∈ l := by
  intro q hq
  rw [← h] at hq
  obtain ⟨k, -, hk⟩ := List.mem_filterMap.mp hq
  exact List.mem_of_getElem? hk
theorem lvm_sub {l l' : List (Nat × TV)} (h : ∀ q ∈ l', q ∈ l) : ∀ q ∈ lvm l', q ∈ lvm l := by
  intro q hq
  obtain ⟨r, hr, rfl⟩ := List.mem_map.mp hq
  exact List.mem_map.mpr ⟨r, h r hr, rfl⟩
/-- what is left of the locals when one word is stored at i -/
def lk1 (i : Nat) (q : Nat × TV) : Bool := !(q.1 == i) && !(q.1 + 1 == i && tw_ q.2 == 2)
def lk2 (i : Nat) (q : Nat × TV) : Bool := !(q.1 == i) && (!(q.1 == i + 1) && !(q.1 + 1 == i && tw_ q.2 == 2))
theorem lk1_in {i : Nat} {x : TV} {l l' : List (Nat × TV)} {ks : List Nat} (h : tv_pick ((i, x) :: l.filter (lk1 i)) ks = l') : ∀ q ∈ lvm l', q ∈ (i, tv x) :: (lvm l).filter (fun q => !(q.1 == i) && !(q.1 + 1 == i && q.2.category == 2)) := by
  intro q hq
  obtain ⟨r, hr, rfl⟩ := List.mem_map.mp hq
  rcases List.mem_cons.mp (tv_pick_sub h r hr) with rfl | h2
  · exact List.mem_cons_self
  · obtain ⟨h3, h4⟩ := List.mem_filter.mp h2
    refine List.mem_cons_of_mem _ (List.mem_filter.mpr ⟨List.mem_map.mpr ⟨r, h3, rfl⟩, ?_⟩)
    simp only [tv_cat]
    exact h4
theorem lk2_in {i : Nat} {x : TV} {l l' : List (Nat × TV)} {ks : List Nat} (h : tv_pick ((i, x) :: l.filter (lk2 i)) ks = l') : ∀ q ∈ lvm l', q ∈ (i, tv x) :: (lvm l).filter (fun q => !(q.1 == i) && (!(q.1 == i + 1) && !(q.1 + 1 == i && q.2.category == 2))) := by
  intro q hq
  obtain ⟨r, hr, rfl⟩ := List.mem_map.mp hq
  rcases List.mem_cons.mp (tv_pick_sub h r hr) with rfl | h2
  · exact List.mem_cons_self
  · obtain ⟨h3, h4⟩ := List.mem_filter.mp h2
    refine List.mem_cons_of_mem _ (List.mem_filter.mpr ⟨List.mem_map.mpr ⟨r, h3, rfl⟩, ?_⟩)
    simp only [tv_cat]
    exact h4
/-- what holds inside a method -/
def CX (p : Program) (s : State) (m : MethodId) (args : Array Value) (c : Code) (cc : ByteArray) (nL : Nat) (A : Nat → Prop) (DD : DT) (own : String) : Prop := p.tables.exec = Jvm.exec ∧ c.code = cc ∧ c.maxLocals = nL ∧ s.vm.findClass own = some m.cls ∧ TW args s ∧ KN DD A s ∧ ∀ q, s.heap.size ≤ q → A q
/-- the machine at pc, its locals lv, its stack st, its heap a world σ, comes to Q -/
def GG (p : Program) (l : Launch) (e : Env) (R : Room) (s : State) (m : MethodId) (args : Array Value) (below : List Frame) (meth : Method) (c : Code) (nL : Nat) (A : Nat → Prop) (DD : DT) (Q : State → Prop) (kc ks : Nat) (σ : Hp) (pc : Nat) (lv : List (Nat × TV)) (st : List TV) : Prop :=
  ∀ (H : Heap) (locs : List Loc) (ls : Array Slot), wld A DD σ H → va_S A s.heap H locs → lv_has ls nL (lvm lv) → W p l e R s m args below meth c H locs kc ks Q (F0 m pc ls (st.map tv))
def Pre (DD : DT) (As : List TV) (σ : Hp) : Array Value → State → Prop := va_Pc (As.map tv) (fun U => wld (dm σ) DD σ U.heap ∧ KN DD (dm σ) U)
def Post (DD : DT) (σ : Hp) (res : Option TV) (σ' : Hp) : Array Value → State → Outcome → State → Prop := fun _ st oc t => (oc = .returned (res.map tv) ∧ wld (dm σ) DD σ' t.heap) ∧ va_F (dm σ) st t
/-- a method's contract: at these arguments and this world it answers res and leaves the world σ' -/
def CT (l : Launch) (DD : DT) (y : MethodName) (cc : ByteArray) (n : Nat) (ret : Option FieldType) (rm : Room) (As : List TV) (σ : Hp) (res : Option TV) (σ' : Hp) : Prop := Met l y (wsM y cc n ret) rm (Pre DD As σ) (Post DD σ res σ') rm.cells rm.slots (dm σ)
theorem KN.same {DD : DT} {A : Nat → Prop} {s U : State} (h : KN DD A s) (hv : U.vm = s.vm) (hH : U.heap = s.heap) : KN DD A U := by
  obtain ⟨h1, h2, h3, h4, h5, h6, h7, h8, h9, h10⟩ := h
  have al : s.vm.Alike U.vm := by rw [hv]; exact Vm.Alike.refl _
  refine ⟨va_K.moved al h1, fun w hw => ?_, va_AO.moved al h3, va_AO.moved al h4, by rw [hH]; exact va_Z.moved al h5, by rw [hH]; exact va_T.moved al h6, by rw [hH]; exact h7.to al (fun _ _ _ => rfl) (fun _ h => h), by rw [hH]; exact h8.to al (fun _ _ _ => rfl) (fun _ h => h), fun w hw => ?_, h10.moved al⟩
  · have hw' := h2 w hw
    simp only [nests, List.mem_cons, List.not_mem_nil, or_false] at hw
    rcases hw with rfl | rfl | rfl | rfl <;> exact va_Nw.same rfl hv.symm hw'
  · have hw' := h9 w hw
    simp only [decls, List.mem_cons, List.not_mem_nil, or_false] at hw
    rcases hw with rfl | rfl | rfl <;> exact va_Nw.same rfl hv.symm hw'
theorem Pre_blind {DD : DT} {As : List TV} {σ : Hp} : FrameBlind (Pre DD As σ) := fun a U g mk q => ⟨q.1, q.2.1, q.2.2.same rfl rfl⟩
section RW
variable {p : Program} {l : Launch} {e : Env} {R : Room} {s : State} {m : MethodId} {args : Array Value} {below : List Frame} {meth : Method} {c : Code} {cc : ByteArray} {nL : Nat} {A : Nat → Prop} {DD : DT} {own : String} {Q : State → Prop} {kc ks pc : Nat} {σ : Hp} {lv : List (Nat × TV)} {st : List TV}

theorem r_iadd (X : CX p s m args c cc nL A DD own) {x y : Int32} (hd : decode cc pc = .ok (.iadd, 1))  (k : GG p l e R s m args below meth c nL A DD Q kc ks σ (pc + 1) (lv) (tI (x + y) :: st)) : GG p l e R s m args below meth c nL A DD Q kc ks σ (pc) (lv) (tI y :: tI x :: st) := fun H locs ls h1 h2 h3 => lv_iadd X.1 X.2.1 hd  (k H locs ls h1 h2 h3)
theorem r_isub (X : CX p s m args c cc nL A DD own) {x y : Int32} (hd : decode cc pc = .ok (.isub, 1))  (k : GG p l e R s m args below meth c nL A DD Q kc ks σ (pc + 1) (lv) (tI (x - y) :: st)) : GG p l e R s m args below meth c nL A DD Q kc ks σ (pc) (lv) (tI y :: tI x :: st) := fun H locs ls h1 h2 h3 => lv_isub X.1 X.2.1 hd  (k H locs ls h1 h2 h3)
theorem r_imul (X : CX p s m args c cc nL A DD own) {x y : Int32} (hd : decode cc pc = .ok (.imul, 1))  (k : GG p l e R s m args below meth c nL A DD Q kc ks σ (pc + 1) (lv) (tI (x * y) :: st)) : GG p l e R s m args below meth c nL A DD Q kc ks σ (pc) (lv) (tI y :: tI x :: st) := fun H locs ls h1 h2 h3 => lv_imul X.1 X.2.1 hd  (k H locs ls h1 h2 h3)
theorem r_iand (X : CX p s m args c cc nL A DD own) {x y : Int32} (hd : decode cc pc = .ok (.iand, 1))  (k : GG p l e R s m args below meth c nL A DD Q kc ks σ (pc + 1) (lv) (tI (x &&& y) :: st)) : GG p l e R s m args below meth c nL A DD Q kc ks σ (pc) (lv) (tI y :: tI x :: st) := fun H locs ls h1 h2 h3 => lv_iand X.1 X.2.1 hd  (k H locs ls h1 h2 h3)
theorem r_ixor (X : CX p s m args c cc nL A DD own) {x y : Int32} (hd : decode cc pc = .ok (.ixor, 1))  (k : GG p l e R s m args below meth c nL A DD Q kc ks σ (pc + 1) (lv) (tI (x ^^^ y) :: st)) : GG p l e R s m args below meth c nL A DD Q kc ks σ (pc) (lv) (tI y :: tI x :: st) := fun H locs ls h1 h2 h3 => lv_ixor X.1 X.2.1 hd  (k H locs ls h1 h2 h3)
theorem r_ishl (X : CX p s m args c cc nL A DD own) {x y : Int32} (hd : decode cc pc = .ok (.ishl, 1))  (k : GG p l e R s m args below meth c nL A DD Q kc ks σ (pc + 1) (lv) (tI (x <<< (y &&& 31)) :: st)) : GG p l e R s m args below meth c nL A DD Q kc ks σ (pc) (lv) (tI y :: tI x :: st) := fun H locs ls h1 h2 h3 => lv_ishl X.1 X.2.1 hd  (k H locs ls h1 h2 h3)
theorem r_idiv (X : CX p s m args c cc nL A DD own) {x y : Int32} (hd : decode cc pc = .ok (.idiv, 1)) (hne : ¬ y = 0) (k : GG p l e R s m args below meth c nL A DD Q kc ks σ (pc + 1) (lv) (tI (x / y) :: st)) : GG p l e R s m args below meth c nL A DD Q kc ks σ (pc) (lv) (tI y :: tI x :: st) := fun H locs ls h1 h2 h3 => lv_idiv X.1 X.2.1 hd hne (k H locs ls h1 h2 h3)
theorem r_irem (X : CX p s m args c cc nL A DD own) {x y : Int32} (hd : decode cc pc = .ok (.irem, 1)) (hne : ¬ y = 0) (k : GG p l e R s m args below meth c nL A DD Q kc ks σ (pc + 1) (lv) (tI (x - x / y * y) :: st)) : GG p l e R s m args below meth c nL A DD Q kc ks σ (pc) (lv) (tI y :: tI x :: st) := fun H locs ls h1 h2 h3 => lv_irem X.1 X.2.1 hd hne (k H locs ls h1 h2 h3)
theorem r_iushr (X : CX p s m args c cc nL A DD own) {x y : Int32} (hd : decode cc pc = .ok (.iushr, 1))  (k : GG p l e R s m args below meth c nL A DD Q kc ks σ (pc + 1) (lv) (tI (iushr_ x y) :: st)) : GG p l e R s m args below meth c nL A DD Q kc ks σ (pc) (lv) (tI y :: tI x :: st) := fun H locs ls h1 h2 h3 => lv_iushr X.1 X.2.1 hd rfl (k H locs ls h1 h2 h3)
theorem r_ineg (X : CX p s m args c cc nL A DD own) {x : Int32} (hd : decode cc pc = .ok (.ineg, 1))  (k : GG p l e R s m args below meth c nL A DD Q kc ks σ (pc + 1) (lv) (tI (-x) :: st)) : GG p l e R s m args below meth c nL A DD Q kc ks σ (pc) (lv) (tI x :: st) := fun H locs ls h1 h2 h3 => lv_ineg X.1 X.2.1 hd  (k H locs ls h1 h2 h3)
theorem r_ladd (X : CX p s m args c cc nL A DD own) {x y : Int64} (hd : decode cc pc = .ok (.ladd, 1))  (k : GG p l e R s m args below meth c nL A DD Q kc ks σ (pc + 1) (lv) (tL (x + y) :: st)) : GG p l e R s m args below meth c nL A DD Q kc ks σ (pc) (lv) (tL y :: tL x :: st) := fun H locs ls h1 h2 h3 => lv_ladd X.1 X.2.1 hd  (k H locs ls h1 h2 h3)
theorem r_lmul (X : CX p s m args c cc nL A DD own) {x y : Int64} (hd : decode cc pc = .ok (.lmul, 1))  (k : GG p l e R s m args below meth c nL A DD Q kc ks σ (pc + 1) (lv) (tL (x * y) :: st)) : GG p l e R s m args below meth c nL A DD Q kc ks σ (pc) (lv) (tL y :: tL x :: st) := fun H locs ls h1 h2 h3 => lv_lmul X.1 X.2.1 hd  (k H locs ls h1 h2 h3)
theorem r_ldiv (X : CX p s m args c cc nL A DD own) {x y : Int64} (hd : decode cc pc = .ok (.ldiv, 1)) (hne : ¬ y = 0) (k : GG p l e R s m args below meth c nL A DD Q kc ks σ (pc + 1) (lv) (tL (x / y) :: st)) : GG p l e R s m args below meth c nL A DD Q kc ks σ (pc) (lv) (tL y :: tL x :: st) := fun H locs ls h1 h2 h3 => lv_ldiv X.1 X.2.1 hd hne (k H locs ls h1 h2 h3)
theorem r_i2l (X : CX p s m args c cc nL A DD own) {x : Int32} (hd : decode cc pc = .ok (.i2l, 1))  (k : GG p l e R s m args below meth c nL A DD Q kc ks σ (pc + 1) (lv) (tL x.toInt64 :: st)) : GG p l e R s m args below meth c nL A DD Q kc ks σ (pc) (lv) (tI x :: st) := fun H locs ls h1 h2 h3 => lv_i2l X.1 X.2.1 hd rfl (k H locs ls h1 h2 h3)
theorem r_l2i (X : CX p s m args c cc nL A DD own) {x : Int64} (hd : decode cc pc = .ok (.l2i, 1))  (k : GG p l e R s m args below meth c nL A DD Q kc ks σ (pc + 1) (lv) (tI x.toInt32 :: st)) : GG p l e R s m args below meth c nL A DD Q kc ks σ (pc) (lv) (tL x :: st) := fun H locs ls h1 h2 h3 => lv_l2i X.1 X.2.1 hd rfl (k H locs ls h1 h2 h3)
theorem r_lcmp (X : CX p s m args c cc nL A DD own) {x y : Int64} (hd : decode cc pc = .ok (.lcmp, 1))  (k : GG p l e R s m args below meth c nL A DD Q kc ks σ (pc + 1) (lv) (tI (lg_cmp x y) :: st)) : GG p l e R s m args below meth c nL A DD Q kc ks σ (pc) (lv) (tL y :: tL x :: st) := fun H locs ls h1 h2 h3 => W.lcmp X.1 X.2.1 hd  (k H locs ls h1 h2 h3)
theorem r_iconst (X : CX p s m args c cc nL A DD own) {n : Int} {v : Int32} (hd : decode cc pc = .ok (.iconst n, 1)) (hv : Int32.ofInt n = v) (k : GG p l e R s m args below meth c nL A DD Q kc ks σ (pc + 1) (lv) (tI v :: st)) : GG p l e R s m args below meth c nL A DD Q kc ks σ (pc) (lv) (st) := fun H locs ls h1 h2 h3 => lv_iconst X.1 X.2.1 hd hv (k H locs ls h1 h2 h3)
theorem r_bipush (X : CX p s m args c cc nL A DD own) {n : Int} {v : Int32} (hd : decode cc pc = .ok (.bipush n, 2)) (hv : (Int8.ofInt n).toInt32 = v) (k : GG p l e R s m args below meth c nL A DD Q kc ks σ (pc + 2) (lv) (tI v :: st)) : GG p l e R s m args below meth c nL A DD Q kc ks σ (pc) (lv) (st) := fun H locs ls h1 h2 h3 => lv_bipush X.1 X.2.1 hd hv (k H locs ls h1 h2 h3)
theorem r_sipush (X : CX p s m args c cc nL A DD own) {n : Int} {v : Int32} (hd : decode cc pc = .ok (.sipush n, 3)) (hv : (Int16.ofInt n).toInt32 = v) (k : GG p l e R s m args below meth c nL A DD Q kc ks σ (pc + 3) (lv) (tI v :: st)) : GG p l e R s m args below meth c nL A DD Q kc ks σ (pc) (lv) (st) := fun H locs ls h1 h2 h3 => lv_sipush X.1 X.2.1 hd hv (k H locs ls h1 h2 h3)
theorem r_lconst (X : CX p s m args c cc nL A DD own) {n : Fin 2} {v : Int64} (hd : decode cc pc = .ok (.lconst n, 1)) (hv : Int64.ofNat (n : Nat) = v) (k : GG p l e R s m args below meth c nL A DD Q kc ks σ (pc + 1) (lv) (tL v :: st)) : GG p l e R s m args below meth c nL A DD Q kc ks σ (pc) (lv) (st) := fun H locs ls h1 h2 h3 => lv_lconst X.1 X.2.1 hd hv (k H locs ls h1 h2 h3)
theorem r_null (X : CX p s m args c cc nL A DD own)  (hd : decode cc pc = .ok (.aconst_null, 1))  (k : GG p l e R s m args below meth c nL A DD Q kc ks σ (pc + 1) (lv) (tR none :: st)) : GG p l e R s m args below meth c nL A DD Q kc ks σ (pc) (lv) (st) := fun H locs ls h1 h2 h3 => lv_null X.1 X.2.1 hd  (k H locs ls h1 h2 h3)
theorem r_dup (X : CX p s m args c cc nL A DD own) {x : TV} (hd : decode cc pc = .ok (.dup, 1)) (hx : tw_ x = 1) (k : GG p l e R s m args below meth c nL A DD Q kc ks σ (pc + 1) (lv) (x :: x :: st)) : GG p l e R s m args below meth c nL A DD Q kc ks σ (pc) (lv) (x :: st) := fun H locs ls h1 h2 h3 => lv_dup X.1 X.2.1 hd (by rw [tv_cat]; exact hx) (k H locs ls h1 h2 h3)
theorem r_pop (X : CX p s m args c cc nL A DD own) {x : TV} (hd : decode cc pc = .ok (.pop, 1)) (hx : tw_ x = 1) (k : GG p l e R s m args below meth c nL A DD Q kc ks σ (pc + 1) (lv) (st)) : GG p l e R s m args below meth c nL A DD Q kc ks σ (pc) (lv) (x :: st) := fun H locs ls h1 h2 h3 => lv_pop X.1 X.2.1 hd (by rw [tv_cat]; exact hx) (k H locs ls h1 h2 h3)
theorem r_dup2 (X : CX p s m args c cc nL A DD own) {x y : TV} (hd : decode cc pc = .ok (.dup2, 1)) (hx : tw_ x = 1) (hy : tw_ y = 1) (k : GG p l e R s m args below meth c nL A DD Q kc ks σ (pc + 1) (lv) (x :: y :: x :: y :: st)) : GG p l e R s m args below meth c nL A DD Q kc ks σ (pc) (lv) (x :: y :: st) := fun H locs ls h1 h2 h3 => lv_dup2_11 X.1 X.2.1 hd (by rw [tv_cat]; exact hx) (by rw [tv_cat]; exact hy) (k H locs ls h1 h2 h3)
theorem r_ldc (X : CX p s m args c cc nL A DD own) {index : Nat} {v : Int32} (hd : decode cc pc = .ok (.ldc index, 2)) (hw : Cond.constant own index v ∈ lw_tbl) (k : GG p l e R s m args below meth c nL A DD Q kc ks σ (pc + 2) (lv) (tI v :: st)) : GG p l e R s m args below meth c nL A DD Q kc ks σ (pc) (lv) (st) := fun H locs ls h1 h2 h3 => lv_ldc X.1 X.2.1 X.2.2.2.1 (X.2.2.2.2.1 _ hw rfl) hd (k H locs ls h1 h2 h3)
theorem r_ldc2 (X : CX p s m args c cc nL A DD own) {index : Nat} {v : Int64} (hd : decode cc pc = .ok (.ldc2_w index, 3)) (hw : Cond.constantLong own index v ∈ lw_tbl) (k : GG p l e R s m args below meth c nL A DD Q kc ks σ (pc + 3) (lv) (tL v :: st)) : GG p l e R s m args below meth c nL A DD Q kc ks σ (pc) (lv) (st) := fun H locs ls h1 h2 h3 => lv_ldc2 X.1 X.2.1 X.2.2.2.1 (X.2.2.2.2.1 _ hw rfl) hd (k H locs ls h1 h2 h3)
theorem r_ldcw (X : CX p s m args c cc nL A DD own) {index : Nat} {v : Int32} (hd : decode cc pc = .ok (.ldc_w index, 3)) (hw : Cond.constant own index v ∈ lw_tbl) (k : GG p l e R s m args below meth c nL A DD Q kc ks σ (pc + 3) (lv) (tI v :: st)) : GG p l e R s m args below meth c nL A DD Q kc ks σ (pc) (lv) (st) := fun H locs ls h1 h2 h3 => lv_ldcw X.1 X.2.1 X.2.2.2.1 (X.2.2.2.2.1 _ hw rfl) hd (k H locs ls h1 h2 h3)
theorem r_iload_n (X : CX p s m args c cc nL A DD own) {f : Fin 4} {i : Nat} {x : Int32} (hd : decode cc pc = .ok (.iload_n f, 1)) (hi : (f : Nat) = i) (j : Nat) (hj : lv[j]? = some (i, tI x)) (k : GG p l e R s m args below meth c nL A DD Q kc ks σ (pc + 1) (lv) (tI x :: st)) : GG p l e R s m args below meth c nL A DD Q kc ks σ (pc) (lv) (st) := fun H locs ls h1 h2 h3 => lv_iload_n X.1 X.2.1 hd hi (lv_at h3 j (lvm_at hj)) (k H locs ls h1 h2 h3)
theorem r_iload (X : CX p s m args c cc nL A DD own) {i : Nat} {x : Int32} (hd : decode cc pc = .ok (.iload i, 2)) (j : Nat) (hj : lv[j]? = some (i, tI x)) (k : GG p l e R s m args below meth c nL A DD Q kc ks σ (pc + 2) (lv) (tI x :: st)) : GG p l e R s m args below meth c nL A DD Q kc ks σ (pc) (lv) (st) := fun H locs ls h1 h2 h3 => lv_iload X.1 X.2.1 hd (lv_at h3 j (lvm_at hj)) (k H locs ls h1 h2 h3)
theorem r_lload_n (X : CX p s m args c cc nL A DD own) {f : Fin 4} {i : Nat} {x : Int64} (hd : decode cc pc = .ok (.lload_n f, 1)) (hi : (f : Nat) = i) (j : Nat) (hj : lv[j]? = some (i, tL x)) (k : GG p l e R s m args below meth c nL A DD Q kc ks σ (pc + 1) (lv) (tL x :: st)) : GG p l e R s m args below meth c nL A DD Q kc ks σ (pc) (lv) (st) := fun H locs ls h1 h2 h3 => lv_lload_n X.1 X.2.1 hd hi (lv_at h3 j (lvm_at hj)) (k H locs ls h1 h2 h3)
theorem r_lload (X : CX p s m args c cc nL A DD own) {i : Nat} {x : Int64} (hd : decode cc pc = .ok (.lload i, 2)) (j : Nat) (hj : lv[j]? = some (i, tL x)) (k : GG p l e R s m args below meth c nL A DD Q kc ks σ (pc + 2) (lv) (tL x :: st)) : GG p l e R s m args below meth c nL A DD Q kc ks σ (pc) (lv) (st) := fun H locs ls h1 h2 h3 => lv_lload X.1 X.2.1 hd (lv_at h3 j (lvm_at hj)) (k H locs ls h1 h2 h3)
theorem r_aload_n (X : CX p s m args c cc nL A DD own) {f : Fin 4} {i : Nat} {x : Option Nat} (hd : decode cc pc = .ok (.aload_n f, 1)) (hi : (f : Nat) = i) (j : Nat) (hj : lv[j]? = some (i, tR x)) (k : GG p l e R s m args below meth c nL A DD Q kc ks σ (pc + 1) (lv) (tR x :: st)) : GG p l e R s m args below meth c nL A DD Q kc ks σ (pc) (lv) (st) := by
  intro H locs ls h1 h2 h3
  cases x with
  | none => exact lv_aload_nN X.1 X.2.1 hd hi (lv_at h3 j (lvm_at hj)) (k H locs ls h1 h2 h3)
  | some a => exact lv_aload_n X.1 X.2.1 hd hi (lv_at h3 j (lvm_at hj)) (k H locs ls h1 h2 h3)
theorem r_aload (X : CX p s m args c cc nL A DD own) {i : Nat} {x : Option Nat} (hd : decode cc pc = .ok (.aload i, 2)) (j : Nat) (hj : lv[j]? = some (i, tR x)) (k : GG p l e R s m args below meth c nL A DD Q kc ks σ (pc + 2) (lv) (tR x :: st)) : GG p l e R s m args below meth c nL A DD Q kc ks σ (pc) (lv) (st) := by
  intro H locs ls h1 h2 h3
  cases x with
  | none => exact lv_aloadN X.1 X.2.1 hd (lv_at h3 j (lvm_at hj)) (k H locs ls h1 h2 h3)
  | some a => exact lv_aload X.1 X.2.1 hd (lv_at h3 j (lvm_at hj)) (k H locs ls h1 h2 h3)
theorem r_istore_n (X : CX p s m args c cc nL A DD own) (js : List Nat) {lv' : List (Nat × TV)} {f : Fin 4} {i : Nat} {x : Int32} (hd : decode cc pc = .ok (.istore_n f, 1)) (hi : (f : Nat) = i) (hn : i < nL) (hl : tv_pick ((i, tI x) :: lv.filter (lk1 i)) js = lv') (k : GG p l e R s m args below meth c nL A DD Q kc ks σ (pc + 1) (lv') (st)) : GG p l e R s m args below meth c nL A DD Q kc ks σ (pc) (lv) (tI x :: st) := fun H locs ls h1 h2 h3 => lv_istore_n X.1 X.2.1 hd hi h3 hn rfl (fun ls' h => k H locs ls' h1 h2 (lv_mono h (lk1_in hl)))
theorem r_istore (X : CX p s m args c cc nL A DD own) (js : List Nat) {lv' : List (Nat × TV)} {i : Nat} {x : Int32} (hd : decode cc pc = .ok (.istore i, 2)) (hn : i < nL) (hl : tv_pick ((i, tI x) :: lv.filter (lk1 i)) js = lv') (k : GG p l e R s m args below meth c nL A DD Q kc ks σ (pc + 2) (lv') (st)) : GG p l e R s m args below meth c nL A DD Q kc ks σ (pc) (lv) (tI x :: st) := fun H locs ls h1 h2 h3 => lv_istore X.1 X.2.1 hd h3 hn rfl (fun ls' h => k H locs ls' h1 h2 (lv_mono h (lk1_in hl)))
theorem r_lstore_n (X : CX p s m args c cc nL A DD own) (js : List Nat) {lv' : List (Nat × TV)} {f : Fin 4} {i : Nat} {x : Int64} (hd : decode cc pc = .ok (.lstore_n f, 1)) (hi : (f : Nat) = i) (hn : i + 1 < nL) (hl : tv_pick ((i, tL x) :: lv.filter (lk2 i)) js = lv') (k : GG p l e R s m args below meth c nL A DD Q kc ks σ (pc + 1) (lv') (st)) : GG p l e R s m args below meth c nL A DD Q kc ks σ (pc) (lv) (tL x :: st) := fun H locs ls h1 h2 h3 => lv_lstore_n X.1 X.2.1 hd hi h3 hn rfl (fun ls' h => k H locs ls' h1 h2 (lv_mono h (lk2_in hl)))
theorem r_lstore (X : CX p s m args c cc nL A DD own) (js : List Nat) {lv' : List (Nat × TV)} {i : Nat} {x : Int64} (hd : decode cc pc = .ok (.lstore i, 2)) (hn : i + 1 < nL) (hl : tv_pick ((i, tL x) :: lv.filter (lk2 i)) js = lv') (k : GG p l e R s m args below meth c nL A DD Q kc ks σ (pc + 2) (lv') (st)) : GG p l e R s m args below meth c nL A DD Q kc ks σ (pc) (lv) (tL x :: st) := fun H locs ls h1 h2 h3 => lv_lstore X.1 X.2.1 hd h3 hn rfl (fun ls' h => k H locs ls' h1 h2 (lv_mono h (lk2_in hl)))
theorem r_astore_n (X : CX p s m args c cc nL A DD own) (js : List Nat) {lv' : List (Nat × TV)} {f : Fin 4} {i : Nat} {x : Option Nat} (hd : decode cc pc = .ok (.astore_n f, 1)) (hi : (f : Nat) = i) (hn : i < nL) (hl : tv_pick ((i, tR x) :: lv.filter (lk1 i)) js = lv') (k : GG p l e R s m args below meth c nL A DD Q kc ks σ (pc + 1) (lv') (st)) : GG p l e R s m args below meth c nL A DD Q kc ks σ (pc) (lv) (tR x :: st) := by
  intro H locs ls h1 h2 h3
  cases x with
  | none => exact lv_astore_nN X.1 X.2.1 hd hi h3 hn rfl (fun ls' h => k H locs ls' h1 h2 (lv_mono h (lk1_in hl)))
  | some a => exact lv_astore_n X.1 X.2.1 hd hi h3 hn rfl (fun ls' h => k H locs ls' h1 h2 (lv_mono h (lk1_in hl)))
theorem r_astore (X : CX p s m args c cc nL A DD own) (js : List Nat) {lv' : List (Nat × TV)} {i : Nat} {x : Option Nat} (hd : decode cc pc = .ok (.astore i, 2)) (hn : i < nL) (hl : tv_pick ((i, tR x) :: lv.filter (lk1 i)) js = lv') (k : GG p l e R s m args below meth c nL A DD Q kc ks σ (pc + 2) (lv') (st)) : GG p l e R s m args below meth c nL A DD Q kc ks σ (pc) (lv) (tR x :: st) := by
  intro H locs ls h1 h2 h3
  cases x with
  | none => exact lv_astoreN X.1 X.2.1 hd h3 hn rfl (fun ls' h => k H locs ls' h1 h2 (lv_mono h (lk1_in hl)))
  | some a => exact lv_astore X.1 X.2.1 hd h3 hn rfl (fun ls' h => k H locs ls' h1 h2 (lv_mono h (lk1_in hl)))
theorem r_iinc (X : CX p s m args c cc nL A DD own) (js : List Nat) {lv' : List (Nat × TV)} {i j : Nat} {n : Int} {x v : Int32} (hd : decode cc pc = .ok (.iinc i n, 3)) (hj : lv[j]? = some (i, tI x)) (hv : x + Int32.ofInt n = v) (hn : i < nL) (hl : tv_pick ((i, tI v) :: lv.filter (lk1 i)) js = lv') (k : GG p l e R s m args below meth c nL A DD Q kc ks σ (pc + 3) (lv') (st)) : GG p l e R s m args below meth c nL A DD Q kc ks σ (pc) (lv) (st) := fun H locs ls h1 h2 h3 => lv_iinc X.1 X.2.1 hd h3 (k := j) (lvm_at hj) hv hn rfl (fun ls' h => k H locs ls' h1 h2 (lv_mono h (lk1_in hl)))
theorem r_goto (X : CX p s m args c cc nL A DD own) {off : Int} {tgt : Nat} (hd : decode cc pc = .ok (.goto off, 3)) (ht : (pc : Int) + off = (tgt : Int)) (k : GG p l e R s m args below meth c nL A DD Q kc ks σ (tgt) (lv) (st)) : GG p l e R s m args below meth c nL A DD Q kc ks σ (pc) (lv) (st) := fun H locs ls h1 h2 h3 => lv_goto X.1 X.2.1 hd ht (k H locs ls h1 h2 h3)
theorem r_if_eq (X : CX p s m args c cc nL A DD own) {x : Int32} {off : Int} {tgt : Nat} (hd : decode cc pc = .ok (.ifCond .eq off, 3)) (ht : (pc : Int) + off = (tgt : Int)) (kt : x = 0 → GG p l e R s m args below meth c nL A DD Q kc ks σ (tgt) (lv) (st)) (kf : ¬ x = 0 → GG p l e R s m args below meth c nL A DD Q kc ks σ (pc + 3) (lv) (st)) : GG p l e R s m args below meth c nL A DD Q kc ks σ (pc) (lv) (tI x :: st) := fun H locs ls h1 h2 h3 => lv_if_eq X.1 X.2.1 hd ht (fun q => kt q H locs ls h1 h2 h3) (fun q => kf q H locs ls h1 h2 h3)
theorem r_if_ne (X : CX p s m args c cc nL A DD own) {x : Int32} {off : Int} {tgt : Nat} (hd : decode cc pc = .ok (.ifCond .ne off, 3)) (ht : (pc : Int) + off = (tgt : Int)) (kt : ¬ x = 0 → GG p l e R s m args below meth c nL A DD Q kc ks σ (tgt) (lv) (st)) (kf : x = 0 → GG p l e R s m args below meth c nL A DD Q kc ks σ (pc + 3) (lv) (st)) : GG p l e R s m args below meth c nL A DD Q kc ks σ (pc) (lv) (tI x :: st) := fun H locs ls h1 h2 h3 => lv_if_ne X.1 X.2.1 hd ht (fun q => kt q H locs ls h1 h2 h3) (fun q => kf q H locs ls h1 h2 h3)
theorem r_if_lt (X : CX p s m args c cc nL A DD own) {x : Int32} {off : Int} {tgt : Nat} (hd : decode cc pc = .ok (.ifCond .lt off, 3)) (ht : (pc : Int) + off = (tgt : Int)) (kt : x < 0 → GG p l e R s m args below meth c nL A DD Q kc ks σ (tgt) (lv) (st)) (kf : ¬ x < 0 → GG p l e R s m args below meth c nL A DD Q kc ks σ (pc + 3) (lv) (st)) : GG p l e R s m args below meth c nL A DD Q kc ks σ (pc) (lv) (tI x :: st) := fun H locs ls h1 h2 h3 => lv_if_lt X.1 X.2.1 hd ht (fun q => kt q H locs ls h1 h2 h3) (fun q => kf q H locs ls h1 h2 h3)
theorem r_if_ge (X : CX p s m args c cc nL A DD own) {x : Int32} {off : Int} {tgt : Nat} (hd : decode cc pc = .ok (.ifCond .ge off, 3)) (ht : (pc : Int) + off = (tgt : Int)) (kt : 0 ≤ x → GG p l e R s m args below meth c nL A DD Q kc ks σ (tgt) (lv) (st)) (kf : ¬ 0 ≤ x → GG p l e R s m args below meth c nL A DD Q kc ks σ (pc + 3) (lv) (st)) : GG p l e R s m args below meth c nL A DD Q kc ks σ (pc) (lv) (tI x :: st) := fun H locs ls h1 h2 h3 => lv_if_ge X.1 X.2.1 hd ht (fun q => kt q H locs ls h1 h2 h3) (fun q => kf q H locs ls h1 h2 h3)
theorem r_if_gt (X : CX p s m args c cc nL A DD own) {x : Int32} {off : Int} {tgt : Nat} (hd : decode cc pc = .ok (.ifCond .gt off, 3)) (ht : (pc : Int) + off = (tgt : Int)) (kt : 0 < x → GG p l e R s m args below meth c nL A DD Q kc ks σ (tgt) (lv) (st)) (kf : ¬ 0 < x → GG p l e R s m args below meth c nL A DD Q kc ks σ (pc + 3) (lv) (st)) : GG p l e R s m args below meth c nL A DD Q kc ks σ (pc) (lv) (tI x :: st) := fun H locs ls h1 h2 h3 => lv_if_gt X.1 X.2.1 hd ht (fun q => kt q H locs ls h1 h2 h3) (fun q => kf q H locs ls h1 h2 h3)
theorem r_if_le (X : CX p s m args c cc nL A DD own) {x : Int32} {off : Int} {tgt : Nat} (hd : decode cc pc = .ok (.ifCond .le off, 3)) (ht : (pc : Int) + off = (tgt : Int)) (kt : x ≤ 0 → GG p l e R s m args below meth c nL A DD Q kc ks σ (tgt) (lv) (st)) (kf : ¬ x ≤ 0 → GG p l e R s m args below meth c nL A DD Q kc ks σ (pc + 3) (lv) (st)) : GG p l e R s m args below meth c nL A DD Q kc ks σ (pc) (lv) (tI x :: st) := fun H locs ls h1 h2 h3 => lv_if_le X.1 X.2.1 hd ht (fun q => kt q H locs ls h1 h2 h3) (fun q => kf q H locs ls h1 h2 h3)
theorem r_icmp_eq (X : CX p s m args c cc nL A DD own) {x y : Int32} {off : Int} {tgt : Nat} (hd : decode cc pc = .ok (.if_icmp .eq off, 3)) (ht : (pc : Int) + off = (tgt : Int)) (kt : x = y → GG p l e R s m args below meth c nL A DD Q kc ks σ (tgt) (lv) (st)) (kf : ¬ x = y → GG p l e R s m args below meth c nL A DD Q kc ks σ (pc + 3) (lv) (st)) : GG p l e R s m args below meth c nL A DD Q kc ks σ (pc) (lv) (tI y :: tI x :: st) := fun H locs ls h1 h2 h3 => lv_icmp_eq X.1 X.2.1 hd ht (fun q => kt q H locs ls h1 h2 h3) (fun q => kf q H locs ls h1 h2 h3)
theorem r_icmp_ne (X : CX p s m args c cc nL A DD own) {x y : Int32} {off : Int} {tgt : Nat} (hd : decode cc pc = .ok (.if_icmp .ne off, 3)) (ht : (pc : Int) + off = (tgt : Int)) (kt : ¬ x = y → GG p l e R s m args below meth c nL A DD Q kc ks σ (tgt) (lv) (st)) (kf : x = y → GG p l e R s m args below meth c nL A DD Q kc ks σ (pc + 3) (lv) (st)) : GG p l e R s m args below meth c nL A DD Q kc ks σ (pc) (lv) (tI y :: tI x :: st) := fun H locs ls h1 h2 h3 => lv_icmp_ne X.1 X.2.1 hd ht (fun q => kt q H locs ls h1 h2 h3) (fun q => kf q H locs ls h1 h2 h3)
theorem r_icmp_lt (X : CX p s m args c cc nL A DD own) {x y : Int32} {off : Int} {tgt : Nat} (hd : decode cc pc = .ok (.if_icmp .lt off, 3)) (ht : (pc : Int) + off = (tgt : Int)) (kt : x < y → GG p l e R s m args below meth c nL A DD Q kc ks σ (tgt) (lv) (st)) (kf : ¬ x < y → GG p l e R s m args below meth c nL A DD Q kc ks σ (pc + 3) (lv) (st)) : GG p l e R s m args below meth c nL A DD Q kc ks σ (pc) (lv) (tI y :: tI x :: st) := fun H locs ls h1 h2 h3 => lv_icmp_lt X.1 X.2.1 hd ht (fun q => kt q H locs ls h1 h2 h3) (fun q => kf q H locs ls h1 h2 h3)
theorem r_icmp_ge (X : CX p s m args c cc nL A DD own) {x y : Int32} {off : Int} {tgt : Nat} (hd : decode cc pc = .ok (.if_icmp .ge off, 3)) (ht : (pc : Int) + off = (tgt : Int)) (kt : y ≤ x → GG p l e R s m args below meth c nL A DD Q kc ks σ (tgt) (lv) (st)) (kf : ¬ y ≤ x → GG p l e R s m args below meth c nL A DD Q kc ks σ (pc + 3) (lv) (st)) : GG p l e R s m args below meth c nL A DD Q kc ks σ (pc) (lv) (tI y :: tI x :: st) := fun H locs ls h1 h2 h3 => lv_icmp_ge X.1 X.2.1 hd ht (fun q => kt q H locs ls h1 h2 h3) (fun q => kf q H locs ls h1 h2 h3)
theorem r_icmp_gt (X : CX p s m args c cc nL A DD own) {x y : Int32} {off : Int} {tgt : Nat} (hd : decode cc pc = .ok (.if_icmp .gt off, 3)) (ht : (pc : Int) + off = (tgt : Int)) (kt : y < x → GG p l e R s m args below meth c nL A DD Q kc ks σ (tgt) (lv) (st)) (kf : ¬ y < x → GG p l e R s m args below meth c nL A DD Q kc ks σ (pc + 3) (lv) (st)) : GG p l e R s m args below meth c nL A DD Q kc ks σ (pc) (lv) (tI y :: tI x :: st) := fun H locs ls h1 h2 h3 => lv_icmp_gt X.1 X.2.1 hd ht (fun q => kt q H locs ls h1 h2 h3) (fun q => kf q H locs ls h1 h2 h3)
theorem r_icmp_le (X : CX p s m args c cc nL A DD own) {x y : Int32} {off : Int} {tgt : Nat} (hd : decode cc pc = .ok (.if_icmp .le off, 3)) (ht : (pc : Int) + off = (tgt : Int)) (kt : x ≤ y → GG p l e R s m args below meth c nL A DD Q kc ks σ (tgt) (lv) (st)) (kf : ¬ x ≤ y → GG p l e R s m args below meth c nL A DD Q kc ks σ (pc + 3) (lv) (st)) : GG p l e R s m args below meth c nL A DD Q kc ks σ (pc) (lv) (tI y :: tI x :: st) := fun H locs ls h1 h2 h3 => lv_icmp_le X.1 X.2.1 hd ht (fun q => kt q H locs ls h1 h2 h3) (fun q => kf q H locs ls h1 h2 h3)
theorem r_acmp_eq (X : CX p s m args c cc nL A DD own) {x y : Option Nat} {off : Int} {tgt : Nat} (hd : decode cc pc = .ok (.if_acmp .eq off, 3)) (ht : (pc : Int) + off = (tgt : Int)) (kt : x = y → GG p l e R s m args below meth c nL A DD Q kc ks σ (tgt) (lv) (st)) (kf : ¬ x = y → GG p l e R s m args below meth c nL A DD Q kc ks σ (pc + 3) (lv) (st)) : GG p l e R s m args below meth c nL A DD Q kc ks σ (pc) (lv) (tR y :: tR x :: st) := fun H locs ls h1 h2 h3 => lv_acmp_eq X.1 X.2.1 hd ht (fun q => kt q H locs ls h1 h2 h3) (fun q => kf q H locs ls h1 h2 h3)
theorem r_acmp_ne (X : CX p s m args c cc nL A DD own) {x y : Option Nat} {off : Int} {tgt : Nat} (hd : decode cc pc = .ok (.if_acmp .ne off, 3)) (ht : (pc : Int) + off = (tgt : Int)) (kt : ¬ x = y → GG p l e R s m args below meth c nL A DD Q kc ks σ (tgt) (lv) (st)) (kf : x = y → GG p l e R s m args below meth c nL A DD Q kc ks σ (pc + 3) (lv) (st)) : GG p l e R s m args below meth c nL A DD Q kc ks σ (pc) (lv) (tR y :: tR x :: st) := fun H locs ls h1 h2 h3 => lv_acmp_ne X.1 X.2.1 hd ht (fun q => kt q H locs ls h1 h2 h3) (fun q => kf q H locs ls h1 h2 h3)
theorem r_ifnull (X : CX p s m args c cc nL A DD own) {x : Option Nat} {off : Int} {tgt : Nat} (hd : decode cc pc = .ok (.ifnull off, 3)) (ht : (pc : Int) + off = (tgt : Int)) (kt : x = none → GG p l e R s m args below meth c nL A DD Q kc ks σ (tgt) (lv) (st)) (kf : ¬ x = none → GG p l e R s m args below meth c nL A DD Q kc ks σ (pc + 3) (lv) (st)) : GG p l e R s m args below meth c nL A DD Q kc ks σ (pc) (lv) (tR x :: st) := by
  intro H locs ls h1 h2 h3
  cases x with
  | none => exact lv_ifnullN X.1 X.2.1 hd ht (kt rfl H locs ls h1 h2 h3)
  | some a => exact lv_ifnull X.1 X.2.1 hd (kf (fun z => by cases z) H locs ls h1 h2 h3)
theorem r_ifnonnull (X : CX p s m args c cc nL A DD own) {x : Option Nat} {off : Int} {tgt : Nat} (hd : decode cc pc = .ok (.ifnonnull off, 3)) (ht : (pc : Int) + off = (tgt : Int)) (kt : ¬ x = none → GG p l e R s m args below meth c nL A DD Q kc ks σ (tgt) (lv) (st)) (kf : x = none → GG p l e R s m args below meth c nL A DD Q kc ks σ (pc + 3) (lv) (st)) : GG p l e R s m args below meth c nL A DD Q kc ks σ (pc) (lv) (tR x :: st) := by
  intro H locs ls h1 h2 h3
  cases x with
  | none => exact lv_ifnonnullN X.1 X.2.1 hd (kf rfl H locs ls h1 h2 h3)
  | some a => exact lv_ifnonnull X.1 X.2.1 hd ht (kt (fun z => by cases z) H locs ls h1 h2 h3)
theorem r_tableIn (X : CX p s m args c cc nL A DD own) {dflt lo hi : Int} {offs : Array Int} {len : Nat} {x : Int32} {off : Int} {tgt : Nat} (hd : decode cc pc = .ok (.tableswitch dflt lo hi offs, len)) (h1 : ¬ x.toInt < lo) (h2 : ¬ hi < x.toInt) (ho : offs[(x.toInt - lo).toNat]? = some off) (ht : (pc : Int) + off = (tgt : Int)) (k : GG p l e R s m args below meth c nL A DD Q kc ks σ (tgt) (lv) (st)) : GG p l e R s m args below meth c nL A DD Q kc ks σ (pc) (lv) (tI x :: st) := fun H locs ls g1 g2 g3 => lv_tableIn X.1 X.2.1 hd h1 h2 ho ht (k H locs ls g1 g2 g3)
theorem r_tableOut (X : CX p s m args c cc nL A DD own) {dflt lo hi : Int} {offs : Array Int} {len : Nat} {x : Int32} {tgt : Nat} (hd : decode cc pc = .ok (.tableswitch dflt lo hi offs, len)) (h : x.toInt < lo ∨ hi < x.toInt) (ht : (pc : Int) + dflt = (tgt : Int)) (k : GG p l e R s m args below meth c nL A DD Q kc ks σ (tgt) (lv) (st)) : GG p l e R s m args below meth c nL A DD Q kc ks σ (pc) (lv) (tI x :: st) := fun H locs ls g1 g2 g3 => lv_tableOut X.1 X.2.1 hd h ht (k H locs ls g1 g2 g3)
theorem r_sub (js : List Nat) {lv' : List (Nat × TV)} (hl : tv_pick lv js = lv') (k : GG p l e R s m args below meth c nL A DD Q kc ks σ (pc) (lv') (st)) : GG p l e R s m args below meth c nL A DD Q kc ks σ (pc) (lv) (st) := fun H locs ls h1 h2 h3 => k H locs ls h1 h2 (lv_mono h3 (lvm_sub (tv_pick_sub hl)))
theorem r_widen {kc2 ks2 : Nat} (h1 : kc ≤ kc2) (h2 : ks ≤ ks2) (k : GG p l e R s m args below meth c nL A DD Q kc2 ks2 σ (pc) (lv) (st)) : GG p l e R s m args below meth c nL A DD Q kc ks σ (pc) (lv) (st) := fun H locs ls g1 g2 g3 => W.widen h1 h2 (k H locs ls g1 g2 g3)
theorem lays_all {args : Array Value} {s : State} (h : TW args s) {ci : Nat} (hci : ci < 12) : ∀ w ∈ u_ws (kR ci) (kT ci) (kN ci), w.before args s = true := fun w hw => h w (ky_in hci w hw).1 (ky_in hci w hw).2
theorem r_ld_I (X : CX p s m args c cc nL A DD own) {r : Option Nat} {ci k index : Nat} {x : Int32} (hg : ld_I σ r ci k = some x) (hci : ci < 12) (hk : k < kN ci) (hty : kY ci k = .int ∨ kY ci k = .boolean) (hdc : (kT ci k).1 = kR ci) (hw : Cond.fieldLink own index (kR ci) (kT ci k).2.1 (kT ci k).2.2.1 ∈ lw_tbl) (hd : decode cc pc = .ok (.getfield index, 3)) (kk : GG p l e R s m args below meth c nL A DD Q kc ks σ (pc + 3) (lv) (tI x :: st)) : GG p l e R s m args below meth c nL A DD Q kc ks σ (pc) (lv) (tR r :: st) := by
  intro H locs ls h1 h2 h3
  obtain ⟨a, ha, hx⟩ := omap hg
  obtain ⟨rfl, hc⟩ := is_O_spec ha
  obtain ⟨g1, g2, g3, cell, q1, q2, q3, q4⟩ := h1.2.1 a ci hc
  obtain ⟨hS, hfc, kC, hkC, hkind⟩ := X.2.2.2.2.2.1.1.1 ci _ (kcl_at hci)
  obtain ⟨cf, kf, fi, f, hi, hsl⟩ := hS k hk
  refine W.getf X.1 X.2.1 X.2.2.2.1 (X.2.2.2.2.1 _ hw rfl) (by rw [← hdc]; exact hi) (u_facts hfc hkC (u_lays (lays_all X.2.2.2.2.1 hci) (fun _ h => h) hk) hi).1 q1 (by rw [q3]; exact fun h => by cases h) (v := tv (tI x)) ?_ rfl rfl hd (kk H locs ls h1 h2 h3)
  rw [hsl, q4 k hk]
  subst hx; rcases hty with hty | hty <;> simp [fv, hty, tv]
theorem r_ld_L (X : CX p s m args c cc nL A DD own) {r : Option Nat} {ci k index : Nat} {x : Int64} (hg : ld_L σ r ci k = some x) (hci : ci < 12) (hk : k < kN ci) (hty : kY ci k = .long) (hdc : (kT ci k).1 = kR ci) (hw : Cond.fieldLink own index (kR ci) (kT ci k).2.1 (kT ci k).2.2.1 ∈ lw_tbl) (hd : decode cc pc = .ok (.getfield index, 3)) (kk : GG p l e R s m args below meth c nL A DD Q kc ks σ (pc + 3) (lv) (tL x :: st)) : GG p l e R s m args below meth c nL A DD Q kc ks σ (pc) (lv) (tR r :: st) := by
  intro H locs ls h1 h2 h3
  obtain ⟨a, ha, hx⟩ := omap hg
  obtain ⟨rfl, hc⟩ := is_O_spec ha
  obtain ⟨g1, g2, g3, cell, q1, q2, q3, q4⟩ := h1.2.1 a ci hc
  obtain ⟨hS, hfc, kC, hkC, hkind⟩ := X.2.2.2.2.2.1.1.1 ci _ (kcl_at hci)
  obtain ⟨cf, kf, fi, f, hi, hsl⟩ := hS k hk
  refine W.getf X.1 X.2.1 X.2.2.2.1 (X.2.2.2.2.1 _ hw rfl) (by rw [← hdc]; exact hi) (u_facts hfc hkC (u_lays (lays_all X.2.2.2.2.1 hci) (fun _ h => h) hk) hi).1 q1 (by rw [q3]; exact fun h => by cases h) (v := tv (tL x)) ?_ rfl rfl hd (kk H locs ls h1 h2 h3)
  rw [hsl, q4 k hk]
  subst hx; simp [fv, hty, tv]
theorem r_ld_R (X : CX p s m args c cc nL A DD own) {r : Option Nat} {ci k index : Nat} {x : Option Nat} (hg : ld_R σ r ci k = some x) (hci : ci < 12) (hk : k < kN ci) (hty : isR (kY ci k) = true) (hdc : (kT ci k).1 = kR ci) (hw : Cond.fieldLink own index (kR ci) (kT ci k).2.1 (kT ci k).2.2.1 ∈ lw_tbl) (hd : decode cc pc = .ok (.getfield index, 3)) (kk : GG p l e R s m args below meth c nL A DD Q kc ks σ (pc + 3) (lv) (tR x :: st)) : GG p l e R s m args below meth c nL A DD Q kc ks σ (pc) (lv) (tR r :: st) := by
  intro H locs ls h1 h2 h3
  obtain ⟨a, ha, hx⟩ := omap hg
  obtain ⟨rfl, hc⟩ := is_O_spec ha
  obtain ⟨g1, g2, g3, cell, q1, q2, q3, q4⟩ := h1.2.1 a ci hc
  obtain ⟨hS, hfc, kC, hkC, hkind⟩ := X.2.2.2.2.2.1.1.1 ci _ (kcl_at hci)
  obtain ⟨cf, kf, fi, f, hi, hsl⟩ := hS k hk
  refine W.getf X.1 X.2.1 X.2.2.2.1 (X.2.2.2.2.1 _ hw rfl) (by rw [← hdc]; exact hi) (u_facts hfc hkC (u_lays (lays_all X.2.2.2.2.1 hci) (fun _ h => h) hk) hi).1 q1 (by rw [q3]; exact fun h => by cases h) (v := tv (tR x)) ?_ rfl rfl hd (kk H locs ls h1 h2 h3)
  rw [hsl, q4 k hk]
  subst hx; cases h : kY ci k <;> rw [h] at hty <;> first | (simp [fv, h, tv]; done) | cases hty
theorem r_st_I (X : CX p s m args c cc nL A DD own) {r : Option Nat} {ci k index : Nat} {x : Int32} {σ' : Hp} (hg : st_I σ r ci k x = some σ') (hci : ci < 12) (hk : k < kN ci) (hty : kY ci k = .int) (hdc : (kT ci k).1 = kR ci) (hfin : (kT ci k).2.2.2 = false) (hw : Cond.fieldLink own index (kR ci) (kT ci k).2.1 (kT ci k).2.2.1 ∈ lw_tbl) (hd : decode cc pc = .ok (.putfield index, 3)) (kk : GG p l e R s m args below meth c nL A DD Q kc ks (σ') (pc + 3) (lv) (st)) : GG p l e R s m args below meth c nL A DD Q kc ks σ (pc) (lv) (tI x :: tR r :: st) := by
  intro H locs ls h1 h2 h3
  obtain ⟨a, ha, hx⟩ := omap hg
  obtain ⟨rfl, hc⟩ := is_O_spec ha
  subst hx
  obtain ⟨g1, g2, g3, cell, q1, q2, q3, q4⟩ := h1.2.1 a ci hc
  have hK := X.2.2.2.2.2.1.1
  have hla := lays_all X.2.2.2.2.1 hci
  obtain ⟨hS, hfc, kC, hkC, hkind⟩ := hK.1 ci _ (kcl_at hci)
  obtain ⟨cf, kf, fi, f, hi, hsl⟩ := hS k hk
  have hap := va_apart (own := own) (args := args) (s := s) hla (fun _ h => h) (kY ci) (kY_ok hci) (knm hci) hK (kcl_at hci)
  have hlay := hla _ (u_in_lay hk)
  unfold u_lay at hlay
  rw [if_neg (by rw [hfin]; decide)] at hlay
  have hst := (u_facts hfc hkC (u_lays hla (fun _ h => h) hk) hi).1
  have h6 := u_store (v := tv (tI x)) hfc hkC hkind hlay hi (kY_ok hci k hk) (by rw [hty]; rfl) (by rw [hty]; rfl)
  refine W.putK X.1 X.2.1 (f := f) ⟨X.2.2.2.1, X.2.2.2.2.1 _ hw rfl, ⟨_, _, _, by rw [← hdc]; exact hi⟩, hst⟩ (v := tv (tI x)) (by rw [q2]; exact h6) q1 q3 (by rw [hsl]; exact k2_hasslot (q4 k hk)) rfl rfl hd fun H' e1 e2 e3 => ?_
  rw [hsl] at e1 ⊢
  exact kk H' _ ls (h1.put hc (ptR_I (Or.inl hty)) e2 e3 ⟨_, e1, q2, q3, t_set q4 hap hk _⟩) (h2.put e2 e3 g2) h3
theorem r_st_L (X : CX p s m args c cc nL A DD own) {r : Option Nat} {ci k index : Nat} {x : Int64} {σ' : Hp} (hg : st_L σ r ci k x = some σ') (hci : ci < 12) (hk : k < kN ci) (hty : kY ci k = .long) (hdc : (kT ci k).1 = kR ci) (hfin : (kT ci k).2.2.2 = false) (hw : Cond.fieldLink own index (kR ci) (kT ci k).2.1 (kT ci k).2.2.1 ∈ lw_tbl) (hd : decode cc pc = .ok (.putfield index, 3)) (kk : GG p l e R s m args below meth c nL A DD Q kc ks (σ') (pc + 3) (lv) (st)) : GG p l e R s m args below meth c nL A DD Q kc ks σ (pc) (lv) (tL x :: tR r :: st) := by
  intro H locs ls h1 h2 h3
  obtain ⟨a, ha, hx⟩ := omap hg
  obtain ⟨rfl, hc⟩ := is_O_spec ha
  subst hx
  obtain ⟨g1, g2, g3, cell, q1, q2, q3, q4⟩ := h1.2.1 a ci hc
  have hK := X.2.2.2.2.2.1.1
  have hla := lays_all X.2.2.2.2.1 hci
  obtain ⟨hS, hfc, kC, hkC, hkind⟩ := hK.1 ci _ (kcl_at hci)
  obtain ⟨cf, kf, fi, f, hi, hsl⟩ := hS k hk
  have hap := va_apart (own := own) (args := args) (s := s) hla (fun _ h => h) (kY ci) (kY_ok hci) (knm hci) hK (kcl_at hci)
  have hlay := hla _ (u_in_lay hk)
  unfold u_lay at hlay
  rw [if_neg (by rw [hfin]; decide)] at hlay
  have hst := (u_facts hfc hkC (u_lays hla (fun _ h => h) hk) hi).1
  have h6 := u_store (v := tv (tL x)) hfc hkC hkind hlay hi (kY_ok hci k hk) (by rw [hty]; rfl) (by rw [hty]; rfl)
  refine W.putK X.1 X.2.1 (f := f) ⟨X.2.2.2.1, X.2.2.2.2.1 _ hw rfl, ⟨_, _, _, by rw [← hdc]; exact hi⟩, hst⟩ (v := tv (tL x)) (by rw [q2]; exact h6) q1 q3 (by rw [hsl]; exact k2_hasslot (q4 k hk)) rfl rfl hd fun H' e1 e2 e3 => ?_
  rw [hsl] at e1 ⊢
  exact kk H' _ ls (h1.put hc (ptR_L hty) e2 e3 ⟨_, e1, q2, q3, t_set q4 hap hk _⟩) (h2.put e2 e3 g2) h3
theorem r_st_R (X : CX p s m args c cc nL A DD own) {r : Option Nat} {ci k index : Nat} {x : Option Nat} {σ' : Hp} (hg : st_R σ r ci k x = some σ') (hci : ci < 12) (hk : k < kN ci) (hty : isR (kY ci k) = true) (hdc : (kT ci k).1 = kR ci) (hfin : (kT ci k).2.2.2 = false) (hw : Cond.fieldLink own index (kR ci) (kT ci k).2.1 (kT ci k).2.2.1 ∈ lw_tbl) (hd : decode cc pc = .ok (.putfield index, 3)) (kk : GG p l e R s m args below meth c nL A DD Q kc ks (σ') (pc + 3) (lv) (st)) : GG p l e R s m args below meth c nL A DD Q kc ks σ (pc) (lv) (tR x :: tR r :: st) := by
  intro H locs ls h1 h2 h3
  obtain ⟨a, ha, hx⟩ := omap hg
  obtain ⟨rfl, hc⟩ := is_O_spec ha
  subst hx
  obtain ⟨g1, g2, g3, cell, q1, q2, q3, q4⟩ := h1.2.1 a ci hc
  have hK := X.2.2.2.2.2.1.1
  have hla := lays_all X.2.2.2.2.1 hci
  obtain ⟨hS, hfc, kC, hkC, hkind⟩ := hK.1 ci _ (kcl_at hci)
  obtain ⟨cf, kf, fi, f, hi, hsl⟩ := hS k hk
  have hap := va_apart (own := own) (args := args) (s := s) hla (fun _ h => h) (kY ci) (kY_ok hci) (knm hci) hK (kcl_at hci)
  have hlay := hla _ (u_in_lay hk)
  unfold u_lay at hlay
  rw [if_neg (by rw [hfin]; decide)] at hlay
  have hst := (u_facts hfc hkC (u_lays hla (fun _ h => h) hk) hi).1
  have h6 := u_store (v := tv (tR x)) hfc hkC hkind hlay hi (kY_ok hci k hk) (by cases h : kY ci k <;> rw [h] at hty <;> first | (cases x <;> rfl) | cases hty) (by cases h : kY ci k <;> rw [h] at hty <;> first | (cases x <;> rfl) | cases hty)
  refine W.putK X.1 X.2.1 (f := f) ⟨X.2.2.2.1, X.2.2.2.2.1 _ hw rfl, ⟨_, _, _, by rw [← hdc]; exact hi⟩, hst⟩ (v := tv (tR x)) (by rw [q2]; exact h6) q1 q3 (by rw [hsl]; exact k2_hasslot (q4 k hk)) rfl rfl hd fun H' e1 e2 e3 => ?_
  rw [hsl] at e1 ⊢
  exact kk H' _ ls (h1.put hc (ptR_R hty) e2 e3 ⟨_, e1, q2, q3, t_set q4 hap hk _⟩) (h2.put e2 e3 g2) h3
theorem r_stF_I (X : CX p s m args c cc nL A DD own) {r : Option Nat} {ci k index : Nat} {x : Int32} {σ' : Hp} (hg : st_I σ r ci k x = some σ') (hci : ci < 12) (hk : k < kN ci) (hty : kY ci k = .int) (hdc : (kT ci k).1 = kR ci) (hfin : (kT ci k).2.2.2 = true) (hin2 : meth.name = "<init>") (hown2 : kR ci = own) (hw : Cond.fieldLink own index (kR ci) (kT ci k).2.1 (kT ci k).2.2.1 ∈ lw_tbl) (hd : decode cc pc = .ok (.putfield index, 3)) (kk : GG p l e R s m args below meth c nL A DD Q kc ks (σ') (pc + 3) (lv) (st)) : GG p l e R s m args below meth c nL A DD Q kc ks σ (pc) (lv) (tI x :: tR r :: st) := by
  intro H locs ls h1 h2 h3
  obtain ⟨a, ha, hx⟩ := omap hg
  obtain ⟨rfl, hc⟩ := is_O_spec ha
  subst hx
  obtain ⟨g1, g2, g3, cell, q1, q2, q3, q4⟩ := h1.2.1 a ci hc
  have hK := X.2.2.2.2.2.1.1
  have hla := lays_all X.2.2.2.2.1 hci
  obtain ⟨hS, hfc, kC, hkC, hkind⟩ := hK.1 ci _ (kcl_at hci)
  obtain ⟨cf, kf, fi, f, hi, hsl⟩ := hS k hk
  have hap := va_apart (own := own) (args := args) (s := s) hla (fun _ h => h) (kY ci) (kY_ok hci) (knm hci) hK (kcl_at hci)
  have hlay := hla _ (u_in_lay hk)
  unfold u_lay at hlay
  rw [if_pos hfin] at hlay
  have hst := (u_facts hfc hkC (u_lays hla (fun _ h => h) hk) hi).1
  have hcf : m.cls = cf := by
    obtain ⟨_, _, c', _, _, _, -, -, hf', -, -, -, hown3, -⟩ := Cond.laysFinal_spec hlay
    have e1 : c' = cf := by have := hi.symm.trans hf'; simp at this; exact this.1.symm
    rw [hdc, hown2] at hown3
    rw [← e1]; exact Option.some.inj (X.2.2.2.1.symm.trans hown3)
  have h6 := u_fits (v := tv (tI x)) hfc hkC hkind (Or.inr hlay) hi (kY_ok hci k hk) (by rw [hty]; rfl) (by rw [hty]; rfl)
  refine W.putFinK X.1 X.2.1 X.2.2.2.1 (X.2.2.2.2.1 _ hw rfl) (by rw [← hdc]; exact hi) hst hcf hin2 (v := tv (tI x)) (by rw [q2]; exact h6) q1 q3 (by rw [hsl]; exact k2_hasslot (q4 k hk)) rfl rfl hd fun H' e1 e2 e3 => ?_
  rw [hsl] at e1 ⊢
  exact kk H' _ ls (h1.put hc (ptR_I (Or.inl hty)) e2 e3 ⟨_, e1, q2, q3, t_set q4 hap hk _⟩) (h2.put e2 e3 g2) h3
theorem r_stF_L (X : CX p s m args c cc nL A DD own) {r : Option Nat} {ci k index : Nat} {x : Int64} {σ' : Hp} (hg : st_L σ r ci k x = some σ') (hci : ci < 12) (hk : k < kN ci) (hty : kY ci k = .long) (hdc : (kT ci k).1 = kR ci) (hfin : (kT ci k).2.2.2 = true) (hin2 : meth.name = "<init>") (hown2 : kR ci = own) (hw : Cond.fieldLink own index (kR ci) (kT ci k).2.1 (kT ci k).2.2.1 ∈ lw_tbl) (hd : decode cc pc = .ok (.putfield index, 3)) (kk : GG p l e R s m args below meth c nL A DD Q kc ks (σ') (pc + 3) (lv) (st)) : GG p l e R s m args below meth c nL A DD Q kc ks σ (pc) (lv) (tL x :: tR r :: st) := by
  intro H locs ls h1 h2 h3
  obtain ⟨a, ha, hx⟩ := omap hg
  obtain ⟨rfl, hc⟩ := is_O_spec ha
  subst hx
  obtain ⟨g1, g2, g3, cell, q1, q2, q3, q4⟩ := h1.2.1 a ci hc
  have hK := X.2.2.2.2.2.1.1
  have hla := lays_all X.2.2.2.2.1 hci
  obtain ⟨hS, hfc, kC, hkC, hkind⟩ := hK.1 ci _ (kcl_at hci)
  obtain ⟨cf, kf, fi, f, hi, hsl⟩ := hS k hk
  have hap := va_apart (own := own) (args := args) (s := s) hla (fun _ h => h) (kY ci) (kY_ok hci) (knm hci) hK (kcl_at hci)
  have hlay := hla _ (u_in_lay hk)
  unfold u_lay at hlay
  rw [if_pos hfin] at hlay
  have hst := (u_facts hfc hkC (u_lays hla (fun _ h => h) hk) hi).1
  have hcf : m.cls = cf := by
    obtain ⟨_, _, c', _, _, _, -, -, hf', -, -, -, hown3, -⟩ := Cond.laysFinal_spec hlay
    have e1 : c' = cf := by have := hi.symm.trans hf'; simp at this; exact this.1.symm
    rw [hdc, hown2] at hown3
    rw [← e1]; exact Option.some.inj (X.2.2.2.1.symm.trans hown3)
  have h6 := u_fits (v := tv (tL x)) hfc hkC hkind (Or.inr hlay) hi (kY_ok hci k hk) (by rw [hty]; rfl) (by rw [hty]; rfl)
  refine W.putFinK X.1 X.2.1 X.2.2.2.1 (X.2.2.2.2.1 _ hw rfl) (by rw [← hdc]; exact hi) hst hcf hin2 (v := tv (tL x)) (by rw [q2]; exact h6) q1 q3 (by rw [hsl]; exact k2_hasslot (q4 k hk)) rfl rfl hd fun H' e1 e2 e3 => ?_
  rw [hsl] at e1 ⊢
  exact kk H' _ ls (h1.put hc (ptR_L hty) e2 e3 ⟨_, e1, q2, q3, t_set q4 hap hk _⟩) (h2.put e2 e3 g2) h3
theorem r_stF_R (X : CX p s m args c cc nL A DD own) {r : Option Nat} {ci k index : Nat} {x : Option Nat} {σ' : Hp} (hg : st_R σ r ci k x = some σ') (hci : ci < 12) (hk : k < kN ci) (hty : isR (kY ci k) = true) (hdc : (kT ci k).1 = kR ci) (hfin : (kT ci k).2.2.2 = true) (hin2 : meth.name = "<init>") (hown2 : kR ci = own) (hw : Cond.fieldLink own index (kR ci) (kT ci k).2.1 (kT ci k).2.2.1 ∈ lw_tbl) (hd : decode cc pc = .ok (.putfield index, 3)) (kk : GG p l e R s m args below meth c nL A DD Q kc ks (σ') (pc + 3) (lv) (st)) : GG p l e R s m args below meth c nL A DD Q kc ks σ (pc) (lv) (tR x :: tR r :: st) := by
  intro H locs ls h1 h2 h3
  obtain ⟨a, ha, hx⟩ := omap hg
  obtain ⟨rfl, hc⟩ := is_O_spec ha
  subst hx
  obtain ⟨g1, g2, g3, cell, q1, q2, q3, q4⟩ := h1.2.1 a ci hc
  have hK := X.2.2.2.2.2.1.1
  have hla := lays_all X.2.2.2.2.1 hci
  obtain ⟨hS, hfc, kC, hkC, hkind⟩ := hK.1 ci _ (kcl_at hci)
  obtain ⟨cf, kf, fi, f, hi, hsl⟩ := hS k hk
  have hap := va_apart (own := own) (args := args) (s := s) hla (fun _ h => h) (kY ci) (kY_ok hci) (knm hci) hK (kcl_at hci)
  have hlay := hla _ (u_in_lay hk)
  unfold u_lay at hlay
  rw [if_pos hfin] at hlay
  have hst := (u_facts hfc hkC (u_lays hla (fun _ h => h) hk) hi).1
  have hcf : m.cls = cf := by
    obtain ⟨_, _, c', _, _, _, -, -, hf', -, -, -, hown3, -⟩ := Cond.laysFinal_spec hlay
    have e1 : c' = cf := by have := hi.symm.trans hf'; simp at this; exact this.1.symm
    rw [hdc, hown2] at hown3
    rw [← e1]; exact Option.some.inj (X.2.2.2.1.symm.trans hown3)
  have h6 := u_fits (v := tv (tR x)) hfc hkC hkind (Or.inr hlay) hi (kY_ok hci k hk) (by cases h : kY ci k <;> rw [h] at hty <;> first | (cases x <;> rfl) | cases hty) (by cases h : kY ci k <;> rw [h] at hty <;> first | (cases x <;> rfl) | cases hty)
  refine W.putFinK X.1 X.2.1 X.2.2.2.1 (X.2.2.2.2.1 _ hw rfl) (by rw [← hdc]; exact hi) hst hcf hin2 (v := tv (tR x)) (by rw [q2]; exact h6) q1 q3 (by rw [hsl]; exact k2_hasslot (q4 k hk)) rfl rfl hd fun H' e1 e2 e3 => ?_
  rw [hsl] at e1 ⊢
  exact kk H' _ ls (h1.put hc (ptR_R hty) e2 e3 ⟨_, e1, q2, q3, t_set q4 hap hk _⟩) (h2.put e2 e3 g2) h3
theorem r_st_Z (X : CX p s m args c cc nL A DD own) {r : Option Nat} {ci k index : Nat} {x : Int32} {σ' : Hp} (hg : st_Z σ r ci k x = some σ') (hci : ci < 12) (hk : k < kN ci) (hty : kY ci k = .boolean) (hdc : (kT ci k).1 = kR ci) (hfin : (kT ci k).2.2.2 = false) (hw : Cond.fieldLink own index (kR ci) (kT ci k).2.1 (kT ci k).2.2.1 ∈ lw_tbl) (hd : decode cc pc = .ok (.putfield index, 3)) (kk : GG p l e R s m args below meth c nL A DD Q kc ks (σ') (pc + 3) (lv) (st)) : GG p l e R s m args below meth c nL A DD Q kc ks σ (pc) (lv) (tI x :: tR r :: st) := by
  intro H locs ls h1 h2 h3
  have hz : x = 0 ∨ x = 1 := by
    unfold st_Z at hg
    split at hg
    · assumption
    · cases hg
  have hg : (is_O σ r ci).map (fun a => up_I σ ci k a x) = some σ' := by
    unfold st_Z at hg
    rw [if_pos hz] at hg
    exact hg
  obtain ⟨a, ha, hx⟩ := omap hg
  obtain ⟨rfl, hc⟩ := is_O_spec ha
  subst hx
  obtain ⟨g1, g2, g3, cell, q1, q2, q3, q4⟩ := h1.2.1 a ci hc
  have hK := X.2.2.2.2.2.1.1
  have hla := lays_all X.2.2.2.2.1 hci
  obtain ⟨hS, hfc, kC, hkC, hkind⟩ := hK.1 ci _ (kcl_at hci)
  obtain ⟨cf, kf, fi, f, hi, hsl⟩ := hS k hk
  have hap := va_apart (own := own) (args := args) (s := s) hla (fun _ h => h) (kY ci) (kY_ok hci) (knm hci) hK (kcl_at hci)
  have hlay := hla _ (u_in_lay hk)
  unfold u_lay at hlay
  rw [if_neg (by rw [hfin]; decide)] at hlay
  have hst := (u_facts hfc hkC (u_lays hla (fun _ h => h) hk) hi).1
  have h6 := u_store (v := tv (tI x)) hfc hkC hkind hlay hi (kY_ok hci k hk) (by rw [hty]; rcases hz with rfl | rfl <;> rfl) (by rw [hty]; rcases hz with rfl | rfl <;> rfl)
  refine W.putK X.1 X.2.1 (f := f) ⟨X.2.2.2.1, X.2.2.2.2.1 _ hw rfl, ⟨_, _, _, by rw [← hdc]; exact hi⟩, hst⟩ (v := tv (tI x)) (by rw [q2]; exact h6) q1 q3 (by rw [hsl]; exact k2_hasslot (q4 k hk)) rfl rfl hd fun H' e1 e2 e3 => ?_
  rw [hsl] at e1 ⊢
  exact kk H' _ ls (h1.put hc (ptR_I (Or.inr hty)) e2 e3 ⟨_, e1, q2, q3, t_set q4 hap hk _⟩) (h2.put e2 e3 g2) h3
end RW
end
section
theorem ktys {c k : Nat} (h : c < 12) (hk : k < kN c) : kY c k = .int ∨ kY c k = .boolean ∨ kY c k = .long ∨ isR (kY c k) = true := by
  have key : ∀ c, c < 12 → ∀ k, k < kN c → (kY c k = .int ∨ kY c k = .boolean ∨ kY c k = .long ∨ isR (kY c k) = true) := by decide +kernel
  exact key c h k hk
def imax_ (x y : Int32) : Int32 := if x < y then y else x
def imin_ (x y : Int32) : Int32 := if y < x then y else x
def iabs_ (x : Int32) : Int32 := if 0 ≤ x then x else 0 - x
def lmin_ (x y : Int64) : Int64 := if y < x then y else x
section RX
variable {p : Program} {l : Launch} {e : Env} {R : Room} {s : State} {m : MethodId} {args : Array Value} {below : List Frame} {meth : Method} {c : Code} {cc : ByteArray} {nL : Nat} {A : Nat → Prop} {DD : DT} {own : String} {Q : State → Prop} {kc ks pc : Nat} {σ : Hp} {lv : List (Nat × TV)} {st : List TV}

theorem r_al_I (X : CX p s m args c cc nL A DD own) {r : Option Nat} {i : Int32} {x : Int32} (hg : al_I σ 0 r i = some x) (hd : decode cc pc = .ok (.iaload, 1)) (kk : GG p l e R s m args below meth c nL A DD Q kc ks σ (pc + 1) (lv) (tI x :: st)) : GG p l e R s m args below meth c nL A DD Q kc ks σ (pc) (lv) (tI i :: tR r :: st) := by
  intro H locs ls h1 h2 h3
  obtain ⟨⟨a, n, f⟩, ha, hx⟩ := obind hg
  obtain ⟨rfl, hc⟩ := ar_I_spec ha
  obtain ⟨j, hj, rfl⟩ := omap hx
  obtain ⟨hin, rfl⟩ := ix_spec hj
  obtain ⟨g1, q, g2, g3⟩ := h1.2.2 a 0 _ hc
  cases g2
  exact va_iald X.1 X.2.1 X.2.2.2.2.2.1.1 (D := DD.1) (cl := kcl) (ws := [(a, .inl (DD.2.1 0, n, .inl f))]) (fun k q hk => by
    have hz : k < 1 := (List.getElem?_eq_some_iff.mp hk).1
    rw [show k = 0 by omega] at hk
    cases hk
    exact g3) 0 0 rfl rfl hin hd (kk H locs ls h1 h2 h3)
theorem r_al_Z (X : CX p s m args c cc nL A DD own) {r : Option Nat} {i : Int32} {x : Int32} (hg : al_I σ 2 r i = some x) (hd : decode cc pc = .ok (.baload, 1)) (kk : GG p l e R s m args below meth c nL A DD Q kc ks σ (pc + 1) (lv) (tI x :: st)) : GG p l e R s m args below meth c nL A DD Q kc ks σ (pc) (lv) (tI i :: tR r :: st) := by
  intro H locs ls h1 h2 h3
  obtain ⟨⟨a, n, f⟩, ha, hx⟩ := obind hg
  obtain ⟨rfl, hc⟩ := ar_I_spec ha
  obtain ⟨j, hj, rfl⟩ := omap hx
  obtain ⟨hin, rfl⟩ := ix_spec hj
  obtain ⟨g1, q, g2, g3⟩ := h1.2.2 a 2 _ hc
  cases g2
  exact va_zald X.1 X.2.1 X.2.2.2.2.2.1.1 (D := DD.1) (cl := kcl) (ws := [(a, .inl (DD.2.1 2, n, .inl f))]) (fun k q hk => by
    have hz : k < 1 := (List.getElem?_eq_some_iff.mp hk).1
    rw [show k = 0 by omega] at hk
    cases hk
    exact g3) 0 2 rfl rfl hin hd (kk H locs ls h1 h2 h3)
theorem r_al_L (X : CX p s m args c cc nL A DD own) {r : Option Nat} {i : Int32} {x : Int64} (hg : al_L σ 1 r i = some x) (hd : decode cc pc = .ok (.laload, 1)) (kk : GG p l e R s m args below meth c nL A DD Q kc ks σ (pc + 1) (lv) (tL x :: st)) : GG p l e R s m args below meth c nL A DD Q kc ks σ (pc) (lv) (tI i :: tR r :: st) := by
  intro H locs ls h1 h2 h3
  obtain ⟨⟨a, n, f⟩, ha, hx⟩ := obind hg
  obtain ⟨rfl, hc⟩ := ar_L_spec ha
  obtain ⟨j, hj, rfl⟩ := omap hx
  obtain ⟨hin, rfl⟩ := ix_spec hj
  obtain ⟨g1, q, g2, g3⟩ := h1.2.2 a 1 _ hc
  cases g2
  exact va_lald X.1 X.2.1 X.2.2.2.2.2.1.1 (D := DD.1) (cl := kcl) (ws := [(a, .inl (DD.2.1 1, n, .inr (.inl f)))]) (fun k q hk => by
    have hz : k < 1 := (List.getElem?_eq_some_iff.mp hk).1
    rw [show k = 0 by omega] at hk
    cases hk
    exact g3) 0 1 rfl rfl hin hd (kk H locs ls h1 h2 h3)
theorem r_al_E (X : CX p s m args c cc nL A DD own) {r : Option Nat} {i : Int32} {x : Option Nat} (hg : al_R σ 3 r i = some x) (hd : decode cc pc = .ok (.aaload, 1)) (kk : GG p l e R s m args below meth c nL A DD Q kc ks σ (pc + 1) (lv) (tR x :: st)) : GG p l e R s m args below meth c nL A DD Q kc ks σ (pc) (lv) (tI i :: tR r :: st) := by
  intro H locs ls h1 h2 h3
  obtain ⟨⟨a, n, f⟩, ha, hx⟩ := obind hg
  obtain ⟨rfl, hc⟩ := ar_R_spec ha
  obtain ⟨j, hj, rfl⟩ := omap hx
  obtain ⟨hin, rfl⟩ := ix_spec hj
  obtain ⟨g1, q, g2, g3⟩ := h1.2.2 a 3 _ hc
  cases g2
  exact va_aldq X.1 X.2.1 X.2.2.2.2.2.1.1 (D := DD.1) (cl := kcl) (ws := [(a, .inl (DD.2.1 3, n, .inr (.inr (.inr (.inr f)))))]) (fun k q hk => by
    have hz : k < 1 := (List.getElem?_eq_some_iff.mp hk).1
    rw [show k = 0 by omega] at hk
    cases hk
    exact g3) 0 3 rfl rfl hin hd (kk H locs ls h1 h2 h3)
theorem r_al_W (X : CX p s m args c cc nL A DD own) {r : Option Nat} {i : Int32} {x : Option Nat} (hg : al_R σ 4 r i = some x) (hd : decode cc pc = .ok (.aaload, 1)) (kk : GG p l e R s m args below meth c nL A DD Q kc ks σ (pc + 1) (lv) (tR x :: st)) : GG p l e R s m args below meth c nL A DD Q kc ks σ (pc) (lv) (tI i :: tR r :: st) := by
  intro H locs ls h1 h2 h3
  obtain ⟨⟨a, n, f⟩, ha, hx⟩ := obind hg
  obtain ⟨rfl, hc⟩ := ar_R_spec ha
  obtain ⟨j, hj, rfl⟩ := omap hx
  obtain ⟨hin, rfl⟩ := ix_spec hj
  obtain ⟨g1, q, g2, g3⟩ := h1.2.2 a 4 _ hc
  cases g2
  exact va_aldq X.1 X.2.1 X.2.2.2.2.2.1.1 (D := DD.1) (cl := kcl) (ws := [(a, .inl (DD.2.1 4, n, .inr (.inr (.inr (.inr f)))))]) (fun k q hk => by
    have hz : k < 1 := (List.getElem?_eq_some_iff.mp hk).1
    rw [show k = 0 by omega] at hk
    cases hk
    exact g3) 0 4 rfl rfl hin hd (kk H locs ls h1 h2 h3)
theorem r_al_N (X : CX p s m args c cc nL A DD own) {r : Option Nat} {x : Int32} (hg : al_N σ r = some x) (hd : decode cc pc = .ok (.arraylength, 1)) (kk : GG p l e R s m args below meth c nL A DD Q kc ks σ (pc + 1) (lv) (tI x :: st)) : GG p l e R s m args below meth c nL A DD Q kc ks σ (pc) (lv) (tR r :: st) := by
  intro H locs ls h1 h2 h3
  cases r with
  | none => cases hg
  | some a =>
    simp only [al_N] at hg
    split at hg
    · rename_i t n z hc
      cases hg
      obtain ⟨g1, q, g2, g3⟩ := h1.2.2 a t _ hc
      exact va_alen X.1 X.2.1 X.2.2.2.2.2.1.1 (D := DD.1) (cl := kcl) (ws := [(a, .inl (q.1, n, z))]) (fun k q hk => by
        have hz : k < 1 := (List.getElem?_eq_some_iff.mp hk).1
        rw [show k = 0 by omega] at hk
        cases hk
        exact g3) 0 t rfl (ty := q.2) g2 rfl hd (kk H locs ls h1 h2 h3)
    · cases hg
theorem r_as_I (X : CX p s m args c cc nL A DD own) {r : Option Nat} {i : Int32} {x : Int32} {σ' : Hp} (hg : as_I σ 0 r i x = some σ') (hd : decode cc pc = .ok (.iastore, 1)) (kk : GG p l e R s m args below meth c nL A DD Q kc ks (σ') (pc + 1) (lv) (st)) : GG p l e R s m args below meth c nL A DD Q kc ks σ (pc) (lv) (tI x :: tI i :: tR r :: st) := by
  intro H locs ls h1 h2 h3
  obtain ⟨⟨a, n, f⟩, ha, hx⟩ := obind hg
  obtain ⟨rfl, hc⟩ := ar_I_spec ha
  obtain ⟨j, hj, rfl⟩ := omap hx
  obtain ⟨hin, rfl⟩ := ix_spec hj
  obtain ⟨g1, q, g2, g3⟩ := h1.2.2 a 0 _ hc
  cases g2
  refine W.iast X.1 X.2.1 g3 ((X.2.2.2.2.2.1.1.2 0 _ rfl).1 n (fun j => .int (f j))) (fun q => by cases q) (by show ¬ (i < 0 ∨ (arrV _ _ _).slots.size ≤ _); rw [arrV_size]; exact hin) rfl rfl hd fun H1 e z oq => ?_
  refine kk H1 _ ls (h1.arr hc rfl z oq ?_) (h2.put z oq g1) h3
  rw [e]
  rw [vp_cell_i, vp_cell_i, arrV_store]
  congr 2
  funext q
  by_cases hq : q = i.toNatClampNeg
  · subst hq
    simp [updV, va_up]
  · simp [updV, va_up, hq]
theorem r_as_L (X : CX p s m args c cc nL A DD own) {r : Option Nat} {i : Int32} {x : Int64} {σ' : Hp} (hg : as_L σ 1 r i x = some σ') (hd : decode cc pc = .ok (.lastore, 1)) (kk : GG p l e R s m args below meth c nL A DD Q kc ks (σ') (pc + 1) (lv) (st)) : GG p l e R s m args below meth c nL A DD Q kc ks σ (pc) (lv) (tL x :: tI i :: tR r :: st) := by
  intro H locs ls h1 h2 h3
  obtain ⟨⟨a, n, f⟩, ha, hx⟩ := obind hg
  obtain ⟨rfl, hc⟩ := ar_L_spec ha
  obtain ⟨j, hj, rfl⟩ := omap hx
  obtain ⟨hin, rfl⟩ := ix_spec hj
  obtain ⟨g1, q, g2, g3⟩ := h1.2.2 a 1 _ hc
  cases g2
  refine W.last X.1 X.2.1 g3 ((X.2.2.2.2.2.1.1.2 1 _ rfl).1 n (fun j => .long (f j))) (fun q => by cases q) (by show ¬ (i < 0 ∨ (arrV _ _ _).slots.size ≤ _); rw [arrV_size]; exact hin) rfl rfl hd fun H1 e z oq => ?_
  refine kk H1 _ ls (h1.arr hc rfl z oq ?_) (h2.put z oq g1) h3
  rw [e]
  rw [vp_cell_l, vp_cell_l, arrV_store]
  congr 2
  funext q
  by_cases hq : q = i.toNatClampNeg
  · subst hq
    simp [updV, va_up]
  · simp [updV, va_up, hq]
theorem r_as_Z (X : CX p s m args c cc nL A DD own) {r : Option Nat} {i : Int32} {x : Int32} {σ' : Hp} (hg : as_Z σ 2 r i x = some σ') (hd : decode cc pc = .ok (.bastore, 1)) (kk : GG p l e R s m args below meth c nL A DD Q kc ks (σ') (pc + 1) (lv) (st)) : GG p l e R s m args below meth c nL A DD Q kc ks σ (pc) (lv) (tI x :: tI i :: tR r :: st) := by
  intro H locs ls h1 h2 h3
  have hz : x = 0 ∨ x = 1 := by
    unfold as_Z at hg
    split at hg
    · assumption
    · cases hg
  have hg : as_I σ 2 r i x = some σ' := by
    unfold as_Z at hg
    rw [if_pos hz] at hg
    exact hg
  have hnar : narrow .boolean (.int x) = .int x := by rcases hz with rfl | rfl <;> rfl
  obtain ⟨⟨a, n, f⟩, ha, hx⟩ := obind hg
  obtain ⟨rfl, hc⟩ := ar_I_spec ha
  obtain ⟨j, hj, rfl⟩ := omap hx
  obtain ⟨hin, rfl⟩ := ix_spec hj
  obtain ⟨g1, q, g2, g3⟩ := h1.2.2 a 2 _ hc
  cases g2
  refine W.zast X.1 X.2.1 g3 ((X.2.2.2.2.2.1.1.2 2 _ rfl).1 n (fun j => .int (f j))) (fun q => by cases q) (by show ¬ (i < 0 ∨ (arrV _ _ _).slots.size ≤ _); rw [arrV_size]; exact hin) rfl rfl hd fun H1 e z oq => ?_
  refine kk H1 _ ls (h1.arr hc rfl z oq ?_) (h2.put z oq g1) h3
  rw [e]
  rw [vp_cell_i, vp_cell_i, arrV_store]
  congr 2
  funext q
  by_cases hq : q = i.toNatClampNeg
  · subst hq
    simp [updV, va_up, hnar]
  · simp [updV, va_up, hq]
theorem r_as_E (X : CX p s m args c cc nL A DD own) {r : Option Nat} {i : Int32} {x : Option Nat} {σ' : Hp} (hg : as_R σ 3 3 r i x = some σ') (hd : decode cc pc = .ok (.aastore, 1)) (kk : GG p l e R s m args below meth c nL A DD Q kc ks (σ') (pc + 1) (lv) (st)) : GG p l e R s m args below meth c nL A DD Q kc ks σ (pc) (lv) (tR x :: tI i :: tR r :: st) := by
  intro H locs ls h1 h2 h3
  have hz : x = none ∨ is_O σ x 3 = x := by
    unfold as_R at hg
    split at hg
    · assumption
    · cases hg
  have hg : (ar_R σ 3 r).bind (fun q => (ix_ i q.2.1).map fun j => up_A σ q.1 (3, q.2.1, .inr (.inr (.inr (.inr (va_up q.2.2 j x)))))) = some σ' := by
    unfold as_R at hg
    rw [if_pos hz] at hg
    exact hg
  obtain ⟨⟨a, n, f⟩, ha, hx⟩ := obind hg
  obtain ⟨rfl, hc⟩ := ar_R_spec ha
  obtain ⟨j, hj, rfl⟩ := omap hx
  obtain ⟨hin, rfl⟩ := ix_spec hj
  obtain ⟨g1, q, g2, g3⟩ := h1.2.2 a 3 _ hc
  cases g2
  have hK := X.2.2.2.2.2.1.1
  have fin : ∀ (H1 : Heap), H1[a]? = some ((arrV (DD.2.1 3) n (fun j => va_rf (f j))).setSlot i.toNatClampNeg (va_rf x)) → H1.size = H.size → (∀ q, q ≠ a → H1[q]? = H[q]?) → ∀ lc, W p l e R s m args below meth c H1 (locs ++ [⟨a, lc⟩]) kc ks Q (F0 m (pc + 1) ls (st.map tv)) := by
    intro H1 e z oq lc
    refine kk H1 _ ls (h1.arr hc rfl z oq ?_) (h2.put z oq g1) h3
    rw [e]
    rw [vp_cell_q, arrV_store]
    congr 2
    funext q
    by_cases hq : q = i.toNatClampNeg
    · subst hq
      simp [updV, va_up]
    · simp [updV, va_up, hq]
  cases x with
  | none => exact va_WaastN (C := "WindowCache$Entry") X.1 X.2.1 g3 ((hK.2 3 _ rfl).1 n (fun j => va_rf (f j))) (fun h => by cases h) (by show ¬ (i < 0 ∨ (arrV _ _ _).slots.size ≤ _); rw [arrV_size]; exact hin) rfl rfl hd fun H1 e z oq => fin H1 e z oq _
  | some v =>
    rcases hz with hz | hz
    · cases hz
    obtain ⟨-, hcv⟩ := is_O_spec hz
    obtain ⟨w1, w2, w3, cellV, v1, v2, v3, -⟩ := h1.2.1 v 3 hcv
    have hcls := (hK.1 3 _ (kcl_at (by decide))).2
    obtain ⟨kA, comp, k1, k2, k3, -⟩ := (hK.2 3 _ rfl).2
    have hcomp : comp = DD.1.1 3 := Option.some.inj (k3.symm.trans hcls.1)
    subst hcomp
    obtain ⟨kC, hkC, -⟩ := hcls.2
    have hlt : i.toNatClampNeg < n := Nat.not_le.mp fun q => hin (Or.inr q)
    have h0 : ¬ i < 0 := fun q => hin (Or.inl q)
    exact W.aast X.1 X.2.1 g3 (fun q h => by cases h) (fun h => by cases h) k1 k2 rfl hkC ⟨h0, by show _ < (arrV _ _ _).slots.size; rw [arrV_size]; exact hlt⟩ v1 (fun q h => by rw [v3] at h; cases h) (by rw [v2]; exact hkC) (by rw [v2]; exact va_assign hcls) rfl rfl hd fun H1 e z oq => fin H1 e z oq _
theorem r_as_W (X : CX p s m args c cc nL A DD own) {r : Option Nat} {i : Int32} {x : Option Nat} {σ' : Hp} (hg : as_R σ 4 10 r i x = some σ') (hd : decode cc pc = .ok (.aastore, 1)) (kk : GG p l e R s m args below meth c nL A DD Q kc ks (σ') (pc + 1) (lv) (st)) : GG p l e R s m args below meth c nL A DD Q kc ks σ (pc) (lv) (tR x :: tI i :: tR r :: st) := by
  intro H locs ls h1 h2 h3
  have hz : x = none ∨ is_O σ x 10 = x := by
    unfold as_R at hg
    split at hg
    · assumption
    · cases hg
  have hg : (ar_R σ 4 r).bind (fun q => (ix_ i q.2.1).map fun j => up_A σ q.1 (4, q.2.1, .inr (.inr (.inr (.inr (va_up q.2.2 j x)))))) = some σ' := by
    unfold as_R at hg
    rw [if_pos hz] at hg
    exact hg
  obtain ⟨⟨a, n, f⟩, ha, hx⟩ := obind hg
  obtain ⟨rfl, hc⟩ := ar_R_spec ha
  obtain ⟨j, hj, rfl⟩ := omap hx
  obtain ⟨hin, rfl⟩ := ix_spec hj
  obtain ⟨g1, q, g2, g3⟩ := h1.2.2 a 4 _ hc
  cases g2
  have hK := X.2.2.2.2.2.1.1
  have fin : ∀ (H1 : Heap), H1[a]? = some ((arrV (DD.2.1 4) n (fun j => va_rf (f j))).setSlot i.toNatClampNeg (va_rf x)) → H1.size = H.size → (∀ q, q ≠ a → H1[q]? = H[q]?) → ∀ lc, W p l e R s m args below meth c H1 (locs ++ [⟨a, lc⟩]) kc ks Q (F0 m (pc + 1) ls (st.map tv)) := by
    intro H1 e z oq lc
    refine kk H1 _ ls (h1.arr hc rfl z oq ?_) (h2.put z oq g1) h3
    rw [e]
    rw [vp_cell_q, arrV_store]
    congr 2
    funext q
    by_cases hq : q = i.toNatClampNeg
    · subst hq
      simp [updV, va_up]
    · simp [updV, va_up, hq]
  cases x with
  | none => exact va_WaastN (C := "WindowCache$Way") X.1 X.2.1 g3 ((hK.2 4 _ rfl).1 n (fun j => va_rf (f j))) (fun h => by cases h) (by show ¬ (i < 0 ∨ (arrV _ _ _).slots.size ≤ _); rw [arrV_size]; exact hin) rfl rfl hd fun H1 e z oq => fin H1 e z oq _
  | some v =>
    rcases hz with hz | hz
    · cases hz
    obtain ⟨-, hcv⟩ := is_O_spec hz
    obtain ⟨w1, w2, w3, cellV, v1, v2, v3, -⟩ := h1.2.1 v 10 hcv
    have hcls := (hK.1 10 _ (kcl_at (by decide))).2
    obtain ⟨kA, comp, k1, k2, k3, -⟩ := (hK.2 4 _ rfl).2
    have hcomp : comp = DD.1.1 10 := Option.some.inj (k3.symm.trans hcls.1)
    subst hcomp
    obtain ⟨kC, hkC, -⟩ := hcls.2
    have hlt : i.toNatClampNeg < n := Nat.not_le.mp fun q => hin (Or.inr q)
    have h0 : ¬ i < 0 := fun q => hin (Or.inl q)
    exact W.aast X.1 X.2.1 g3 (fun q h => by cases h) (fun h => by cases h) k1 k2 rfl hkC ⟨h0, by show _ < (arrV _ _ _).slots.size; rw [arrV_size]; exact hlt⟩ v1 (fun q h => by rw [v3] at h; cases h) (by rw [v2]; exact hkC) (by rw [v2]; exact va_assign hcls) rfl rfl hd fun H1 e z oq => fin H1 e z oq _
theorem r_odd (X : CX p s m args c cc nL A DD own) {index : Nat} (hw : Cond.fieldLink own index "WindowCache$Counts" "ODD" "[I" ∈ lw_tbl) (hd : decode cc pc = .ok (.getstatic index, 3)) (kk : GG p l e R s m args below meth c nL A DD Q kc ks σ (pc + 3) (lv) (tR (some DD.2.2) :: st)) : GG p l e R s m args below meth c nL A DD Q kc ks σ (pc) (lv) (st) := fun H locs ls h1 h2 h3 => va_gets X.1 X.2.1 X.2.2.2.2.2.1.2.2.2.2.1 h2 X.2.2.2.1 (X.2.2.2.2.1 _ hw rfl) (fun _ h => h) hd (kk H locs ls h1 h2 h3)
theorem r_oddI (X : CX p s m args c cc nL A DD own) {i : Int32} {j : Nat} (hg : ix_ i 4 = some j) (hd : decode cc pc = .ok (.iaload, 1)) (kk : GG p l e R s m args below meth c nL A DD Q kc ks σ (pc + 1) (lv) (tI (oddn j) :: st)) : GG p l e R s m args below meth c nL A DD Q kc ks σ (pc) (lv) (tI i :: tR (some DD.2.2) :: st) := by
  intro H locs ls h1 h2 h3
  obtain ⟨hin, rfl⟩ := ix_spec hg
  exact va_ti X.1 X.2.1 X.2.2.2.2.2.1.2.2.2.2.2.1 h2 hin rfl hd (kk H locs ls h1 h2 h3)
theorem r_new (X : CX p s m args c cc nL A DD own) {ci index : Nat} (hci : ci < 12) (hw : Cond.classLink own index (kR ci) ∈ lw_tbl) (hw2 : Cond.instantiable (kR ci) (kN ci) ∈ lw_tbl) (hw3 : Cond.initialized (kR ci) ∈ lw_tbl) (hkc : kc + 1 ≤ R.cells) (hks : ks + kN ci ≤ R.slots) (hd : decode cc pc = .ok (.new index, 3)) (kk : GG p l e R s m args below meth c nL A DD Q (kc + 1) (ks + kN ci) (nw_O σ ci) (pc + 3) (lv) (tR (some (hp_N σ)) :: st)) : GG p l e R s m args below meth c nL A DD Q kc ks σ (pc) (lv) (st) := by
  intro H locs ls h1 h2 h3
  have hK := X.2.2.2.2.2.1.1
  have hKn := hK.1 ci _ (kcl_at hci)
  refine W.newcK X.1 X.2.1 X.2.2.2.1 (X.2.2.2.2.1 _ hw rfl) (X.2.2.2.2.1 _ hw2 rfl) (X.2.2.2.2.1 _ hw3 rfl) rfl hd hkc hks hKn.2.1 rfl fun H1 kC hkC e1 z1 o1 => ?_
  have hA : A H.size := X.2.2.2.2.2.2 _ h2.1
  have hb := u_born (kY ci) (lays_all X.2.2.2.2.1 hci) (fun _ h => h) hKn hkC e1 (kY_ok hci)
  have hN : H.size = hp_N σ := h1.1
  have w := h1.newO hci hA z1 o1 (hb.to fun k hk => by rw [hN]; exact (fv_nwO_new (ktys hci hk)).symm)
  rw [hN]
  exact kk H1 locs ls w ⟨Nat.le_trans h2.1 (by omega), fun x q1 q2 => (o1 x (Nat.lt_of_lt_of_le q1 h2.1)).trans (h2.2.1 x q1 q2), h2.2.2⟩ h3
theorem r_newa_I (X : CX p s m args c cc nL A DD own) {n : Int32} (M : Nat) (hn : ¬ (n < 0 ∨ M < n.toNatClampNeg)) (hM : M ≤ 65536) (hkc : kc + 1 ≤ R.cells) (hks : ks + M ≤ R.slots) (hd : decode cc pc = .ok (.newarray .int, 2)) (hw : Cond.arrayClass .int ∈ lw_tbl) (kk : GG p l e R s m args below meth c nL A DD Q (kc + 1) (ks + M) (nw_A σ (0, n.toNatClampNeg, .inl (fun _ => 0))) (pc + 2) (lv) (tR (some (hp_N σ)) :: st)) : GG p l e R s m args below meth c nL A DD Q kc ks σ (pc) (lv) (tI n :: st) := by
  intro H locs ls h1 h2 h3
  have hK := X.2.2.2.2.2.1.1
  have hn0 : ¬ n < 0 := fun z => hn (Or.inl z)
  have hnM : n.toNatClampNeg ≤ M := Nat.not_lt.mp fun z => hn (Or.inr z)
  refine va_newaK X.1 X.2.1 (atype := .int) (X.2.2.2.2.1 _ hw rfl) rfl hd rfl hn0 rfl (by show n.toNatClampNeg * 4 ≤ _; omega) hkc (by omega) rfl fun H1 cA e1 z1 o1 hAr hNm => ?_
  have hA : A H.size := X.2.2.2.2.2.2 _ h2.1
  have hcA : cA = DD.2.1 0 := Option.some.inj (hNm.symm.trans (hK.2 0 _ rfl).2)
  subst hcA
  have hN : H.size = hp_N σ := h1.1
  have w := h1.newA (t := 0) (y := (n.toNatClampNeg, .inl (fun _ => 0))) hA rfl z1 o1 e1
  refine W.widen (Nat.le_refl _) (by omega : ks + n.toNatClampNeg ≤ ks + M) ?_
  show W p l e R s m args below meth c H1 locs (kc + 1) (ks + M) Q (F0 m (pc + 2) ls (.ref H.size :: st.map tv))
  rw [hN]
  exact kk H1 locs ls w ⟨Nat.le_trans h2.1 (by omega), fun x q1 q2 => (o1 x (Nat.lt_of_lt_of_le q1 h2.1)).trans (h2.2.1 x q1 q2), h2.2.2⟩ h3
theorem r_newa_L (X : CX p s m args c cc nL A DD own) {n : Int32} (M : Nat) (hn : ¬ (n < 0 ∨ M < n.toNatClampNeg)) (hM : M ≤ 65536) (hkc : kc + 1 ≤ R.cells) (hks : ks + M ≤ R.slots) (hd : decode cc pc = .ok (.newarray .long, 2)) (hw : Cond.arrayClass .long ∈ lw_tbl) (kk : GG p l e R s m args below meth c nL A DD Q (kc + 1) (ks + M) (nw_A σ (1, n.toNatClampNeg, .inr (.inl (fun _ => 0)))) (pc + 2) (lv) (tR (some (hp_N σ)) :: st)) : GG p l e R s m args below meth c nL A DD Q kc ks σ (pc) (lv) (tI n :: st) := by
  intro H locs ls h1 h2 h3
  have hK := X.2.2.2.2.2.1.1
  have hn0 : ¬ n < 0 := fun z => hn (Or.inl z)
  have hnM : n.toNatClampNeg ≤ M := Nat.not_lt.mp fun z => hn (Or.inr z)
  refine va_newaK X.1 X.2.1 (atype := .long) (X.2.2.2.2.1 _ hw rfl) rfl hd rfl hn0 rfl (by show n.toNatClampNeg * 8 ≤ _; omega) hkc (by omega) rfl fun H1 cA e1 z1 o1 hAr hNm => ?_
  have hA : A H.size := X.2.2.2.2.2.2 _ h2.1
  have hcA : cA = DD.2.1 1 := Option.some.inj (hNm.symm.trans (hK.2 1 _ rfl).2)
  subst hcA
  have hN : H.size = hp_N σ := h1.1
  have w := h1.newA (t := 1) (y := (n.toNatClampNeg, .inr (.inl (fun _ => 0)))) hA rfl z1 o1 e1
  refine W.widen (Nat.le_refl _) (by omega : ks + n.toNatClampNeg ≤ ks + M) ?_
  show W p l e R s m args below meth c H1 locs (kc + 1) (ks + M) Q (F0 m (pc + 2) ls (.ref H.size :: st.map tv))
  rw [hN]
  exact kk H1 locs ls w ⟨Nat.le_trans h2.1 (by omega), fun x q1 q2 => (o1 x (Nat.lt_of_lt_of_le q1 h2.1)).trans (h2.2.1 x q1 q2), h2.2.2⟩ h3
theorem r_newa_Z (X : CX p s m args c cc nL A DD own) {n : Int32} (M : Nat) (hn : ¬ (n < 0 ∨ M < n.toNatClampNeg)) (hM : M ≤ 65536) (hkc : kc + 1 ≤ R.cells) (hks : ks + M ≤ R.slots) (hd : decode cc pc = .ok (.newarray .boolean, 2)) (hw : Cond.arrayClass .boolean ∈ lw_tbl) (kk : GG p l e R s m args below meth c nL A DD Q (kc + 1) (ks + M) (nw_A σ (2, n.toNatClampNeg, .inl (fun _ => 0))) (pc + 2) (lv) (tR (some (hp_N σ)) :: st)) : GG p l e R s m args below meth c nL A DD Q kc ks σ (pc) (lv) (tI n :: st) := by
  intro H locs ls h1 h2 h3
  have hK := X.2.2.2.2.2.1.1
  have hn0 : ¬ n < 0 := fun z => hn (Or.inl z)
  have hnM : n.toNatClampNeg ≤ M := Nat.not_lt.mp fun z => hn (Or.inr z)
  refine va_newaK X.1 X.2.1 (atype := .boolean) (X.2.2.2.2.1 _ hw rfl) rfl hd rfl hn0 rfl (by show n.toNatClampNeg * 1 ≤ _; omega) hkc (by omega) rfl fun H1 cA e1 z1 o1 hAr hNm => ?_
  have hA : A H.size := X.2.2.2.2.2.2 _ h2.1
  have hcA : cA = DD.2.1 2 := Option.some.inj (hNm.symm.trans (hK.2 2 _ rfl).2)
  subst hcA
  have hN : H.size = hp_N σ := h1.1
  have w := h1.newA (t := 2) (y := (n.toNatClampNeg, .inl (fun _ => 0))) hA rfl z1 o1 e1
  refine W.widen (Nat.le_refl _) (by omega : ks + n.toNatClampNeg ≤ ks + M) ?_
  show W p l e R s m args below meth c H1 locs (kc + 1) (ks + M) Q (F0 m (pc + 2) ls (.ref H.size :: st.map tv))
  rw [hN]
  exact kk H1 locs ls w ⟨Nat.le_trans h2.1 (by omega), fun x q1 q2 => (o1 x (Nat.lt_of_lt_of_le q1 h2.1)).trans (h2.2.1 x q1 q2), h2.2.2⟩ h3
theorem r_newa_E (X : CX p s m args c cc nL A DD own) {n : Int32} {index : Nat} (M : Nat) (hn : ¬ (n < 0 ∨ M < n.toNatClampNeg)) (hM : M ≤ 65536) (hkc : kc + 1 ≤ R.cells) (hks : ks + M ≤ R.slots) (hd : decode cc pc = .ok (.anewarray index, 3)) (hw : Cond.classLink own index "WindowCache$Entry" ∈ lw_tbl) (kk : GG p l e R s m args below meth c nL A DD Q (kc + 1) (ks + M) (nw_A σ (3, n.toNatClampNeg, .inr (.inr (.inr (.inr (fun _ => none)))))) (pc + 3) (lv) (tR (some (hp_N σ)) :: st)) : GG p l e R s m args below meth c nL A DD Q kc ks σ (pc) (lv) (tI n :: st) := by
  intro H locs ls h1 h2 h3
  have hK := X.2.2.2.2.2.1.1
  have hn0 : ¬ n < 0 := fun z => hn (Or.inl z)
  have hnM : n.toNatClampNeg ≤ M := Nat.not_lt.mp fun z => hn (Or.inr z)
  refine W.anew X.1 X.2.1 X.2.2.2.1 (X.2.2.2.2.1 _ hw rfl) (va_AO.use X.2.2.2.2.2.1.2.2.1) rfl hd rfl hn0 (by omega) hkc (by omega) fun cA kA comp f1 f2 f3 f4 => ?_
  have hA : A H.size := X.2.2.2.2.2.2 _ h2.1
  obtain ⟨kA', comp', -, -, -, k4⟩ := (hK.2 3 _ rfl).2
  have hcA : cA = DD.2.1 3 := Option.some.inj (f1.symm.trans k4)
  subst hcA
  have hN : H.size = hp_N σ := h1.1
  generalize hH1 : H.push ({ cls := DD.2.1 3, slots := Array.replicate n.toNatClampNeg .null, vm := .none } : Cell) = H1
  have z1 : H1.size = H.size + 1 := by rw [← hH1, Array.size_push]
  have e1 : H1[H.size]? = some (arrV (DD.2.1 3) n.toNatClampNeg (fun _ => .null)) := by rw [← hH1, Array.getElem?_push_size, ← arrV_new]
  have o1 : ∀ q, q < H.size → H1[q]? = H[q]? := fun q hq => by rw [← hH1, Array.getElem?_push, if_neg (Nat.ne_of_lt hq)]
  have w := h1.newA (t := 3) (y := (n.toNatClampNeg, .inr (.inr (.inr (.inr (fun _ => none)))))) hA rfl z1 o1 e1
  refine W.widen (Nat.le_refl _) (by omega : ks + n.toNatClampNeg ≤ ks + M) ?_
  show W p l e R s m args below meth c H1 locs (kc + 1) (ks + M) Q (F0 m (pc + 3) ls (.ref H.size :: st.map tv))
  rw [hN]
  exact kk H1 locs ls w ⟨Nat.le_trans h2.1 (by omega), fun x q1 q2 => (o1 x (Nat.lt_of_lt_of_le q1 h2.1)).trans (h2.2.1 x q1 q2), h2.2.2⟩ h3
theorem r_newa_W (X : CX p s m args c cc nL A DD own) {n : Int32} {index : Nat} (M : Nat) (hn : ¬ (n < 0 ∨ M < n.toNatClampNeg)) (hM : M ≤ 65536) (hkc : kc + 1 ≤ R.cells) (hks : ks + M ≤ R.slots) (hd : decode cc pc = .ok (.anewarray index, 3)) (hw : Cond.classLink own index "WindowCache$Way" ∈ lw_tbl) (kk : GG p l e R s m args below meth c nL A DD Q (kc + 1) (ks + M) (nw_A σ (4, n.toNatClampNeg, .inr (.inr (.inr (.inr (fun _ => none)))))) (pc + 3) (lv) (tR (some (hp_N σ)) :: st)) : GG p l e R s m args below meth c nL A DD Q kc ks σ (pc) (lv) (tI n :: st) := by
  intro H locs ls h1 h2 h3
  have hK := X.2.2.2.2.2.1.1
  have hn0 : ¬ n < 0 := fun z => hn (Or.inl z)
  have hnM : n.toNatClampNeg ≤ M := Nat.not_lt.mp fun z => hn (Or.inr z)
  refine W.anew X.1 X.2.1 X.2.2.2.1 (X.2.2.2.2.1 _ hw rfl) (va_AO.use X.2.2.2.2.2.1.2.2.2.1) rfl hd rfl hn0 (by omega) hkc (by omega) fun cA kA comp f1 f2 f3 f4 => ?_
  have hA : A H.size := X.2.2.2.2.2.2 _ h2.1
  obtain ⟨kA', comp', -, -, -, k4⟩ := (hK.2 4 _ rfl).2
  have hcA : cA = DD.2.1 4 := Option.some.inj (f1.symm.trans k4)
  subst hcA
  have hN : H.size = hp_N σ := h1.1
  generalize hH1 : H.push ({ cls := DD.2.1 4, slots := Array.replicate n.toNatClampNeg .null, vm := .none } : Cell) = H1
  have z1 : H1.size = H.size + 1 := by rw [← hH1, Array.size_push]
  have e1 : H1[H.size]? = some (arrV (DD.2.1 4) n.toNatClampNeg (fun _ => .null)) := by rw [← hH1, Array.getElem?_push_size, ← arrV_new]
  have o1 : ∀ q, q < H.size → H1[q]? = H[q]? := fun q hq => by rw [← hH1, Array.getElem?_push, if_neg (Nat.ne_of_lt hq)]
  have w := h1.newA (t := 4) (y := (n.toNatClampNeg, .inr (.inr (.inr (.inr (fun _ => none)))))) hA rfl z1 o1 e1
  refine W.widen (Nat.le_refl _) (by omega : ks + n.toNatClampNeg ≤ ks + M) ?_
  show W p l e R s m args below meth c H1 locs (kc + 1) (ks + M) Q (F0 m (pc + 3) ls (.ref H.size :: st.map tv))
  rw [hN]
  exact kk H1 locs ls w ⟨Nat.le_trans h2.1 (by omega), fun x q1 q2 => (o1 x (Nat.lt_of_lt_of_le q1 h2.1)).trans (h2.2.1 x q1 q2), h2.2.2⟩ h3
theorem r_objInit (X : CX p s m args c cc nL A DD own) {index : Nat} {r : Option Nat} {b : Nat} (hr : r = some b) (hw : Cond.methodLink own index objectInit ∈ lw_tbl) (hw2 : Cond.instanceMethod objectInit ∈ lw_tbl) (hw3 : Cond.code objectInit ⟨#[0xb1]⟩ 1 none ∈ lw_tbl) (hf : 1 ≤ R.frames) (hl : (st.map tw_).sum + 12 ≤ R.locals) (hd : decode cc pc = .ok (.invokespecial index, 3)) (kk : GG p l e R s m args below meth c nL A DD Q kc ks σ (pc + 3) (lv) (st)) : GG p l e R s m args below meth c nL A DD Q kc ks σ (pc) (lv) (tR r :: st) := by
  intro H locs ls h1 h2 h3
  subst hr
  refine W.objInit (g := F0 m pc ls ((tR (some b) :: st).map tv)) X.1 X.2.1 X.2.2.2.1 (X.2.2.2.2.1 _ hw rfl) (X.2.2.2.2.1 _ hw2 rfl) (X.2.2.2.2.1 _ hw3 rfl) rfl (by rw [X.2.2.1]; exact h3.1) rfl hd hf (by rw [tv_cats]; show 2 * 0 + _ + 12 ≤ _; omega) (kk H locs ls h1 h2 h3)
theorem r_mmax (X : CX p s m args c cc nL A DD own) {x y : Int32} {index : Nat} (hl : Cond.methodLink own index Lib.Math.max.name ∈ lw_tbl) (hst : Cond.static Lib.Math.max.name ∈ lw_tbl) (hini : Cond.initialized "java/lang/Math" ∈ lw_tbl) (hcd : Cond.code Lib.Math.max.name Lib.Math.max.code 2 (some .int) ∈ lw_tbl) (hf : 1 ≤ R.frames) (hlo : (st.map tw_).sum + 13 ≤ R.locals) (hc : kc ≤ R.cells) (hs : ks ≤ R.slots) (hd : decode cc pc = .ok (.invokestatic index, 3)) (kk : GG p l e R s m args below meth c nL A DD Q kc ks σ (pc + 3) (lv) (tI (imax_ x y) :: st)) : GG p l e R s m args below meth c nL A DD Q kc ks σ (pc) (lv) (tI y :: tI x :: st) := fun H locs ls h1 h2 h3 => va_mmax X.1 X.2.1 (by rw [X.2.2.1, h3.1]) X.2.2.2.1 (X.2.2.2.2.1 _ hl rfl) (X.2.2.2.2.1 _ hst rfl) (X.2.2.2.2.1 _ hini rfl) (X.2.2.2.2.1 _ hcd rfl) hf (by rw [tv_cats]; exact hlo) hc hs hd (kk H locs ls h1 h2 h3)
theorem r_mmin (X : CX p s m args c cc nL A DD own) {x y : Int32} {index : Nat} (hl : Cond.methodLink own index Lib.Math.min.name ∈ lw_tbl) (hst : Cond.static Lib.Math.min.name ∈ lw_tbl) (hini : Cond.initialized "java/lang/Math" ∈ lw_tbl) (hcd : Cond.code Lib.Math.min.name Lib.Math.min.code 2 (some .int) ∈ lw_tbl) (hf : 1 ≤ R.frames) (hlo : (st.map tw_).sum + 13 ≤ R.locals) (hc : kc ≤ R.cells) (hs : ks ≤ R.slots) (hd : decode cc pc = .ok (.invokestatic index, 3)) (kk : GG p l e R s m args below meth c nL A DD Q kc ks σ (pc + 3) (lv) (tI (imin_ x y) :: st)) : GG p l e R s m args below meth c nL A DD Q kc ks σ (pc) (lv) (tI y :: tI x :: st) := fun H locs ls h1 h2 h3 => va_mmin X.1 X.2.1 (by rw [X.2.2.1, h3.1]) X.2.2.2.1 (X.2.2.2.2.1 _ hl rfl) (X.2.2.2.2.1 _ hst rfl) (X.2.2.2.2.1 _ hini rfl) (X.2.2.2.2.1 _ hcd rfl) hf (by rw [tv_cats]; exact hlo) hc hs hd (kk H locs ls h1 h2 h3)
theorem r_mabs (X : CX p s m args c cc nL A DD own) {x : Int32} {index : Nat} (hl : Cond.methodLink own index Lib.Math.abs.name ∈ lw_tbl) (hst : Cond.static Lib.Math.abs.name ∈ lw_tbl) (hini : Cond.initialized "java/lang/Math" ∈ lw_tbl) (hcd : Cond.code Lib.Math.abs.name Lib.Math.abs.code 1 (some .int) ∈ lw_tbl) (hf : 1 ≤ R.frames) (hlo : (st.map tw_).sum + 13 ≤ R.locals) (hc : kc ≤ R.cells) (hs : ks ≤ R.slots) (hd : decode cc pc = .ok (.invokestatic index, 3)) (kk : GG p l e R s m args below meth c nL A DD Q kc ks σ (pc + 3) (lv) (tI (iabs_ x) :: st)) : GG p l e R s m args below meth c nL A DD Q kc ks σ (pc) (lv) (tI x :: st) := fun H locs ls h1 h2 h3 => va_mabs X.1 X.2.1 (by rw [X.2.2.1, h3.1]) X.2.2.2.1 (X.2.2.2.2.1 _ hl rfl) (X.2.2.2.2.1 _ hst rfl) (X.2.2.2.2.1 _ hini rfl) (X.2.2.2.2.1 _ hcd rfl) hf (by rw [tv_cats]; exact hlo) hc hs hd (kk H locs ls h1 h2 h3)
theorem r_mminL (X : CX p s m args c cc nL A DD own) {x y : Int64} {index : Nat} (hl : Cond.methodLink own index Lib.MathLoose.min_long.x ∈ lw_tbl) (hst : Cond.static Lib.MathLoose.min_long.x ∈ lw_tbl) (hini : Cond.initialized "java/lang/Math" ∈ lw_tbl) (hcd : Cond.code Lib.MathLoose.min_long.x Lib.MathLoose.min_long.code 4 (some .long) ∈ lw_tbl) (hf : 1 ≤ R.frames) (hlo : (st.map tw_).sum + 15 ≤ R.locals) (hc : kc ≤ R.cells) (hs : ks ≤ R.slots) (hd : decode cc pc = .ok (.invokestatic index, 3)) (kk : GG p l e R s m args below meth c nL A DD Q kc ks σ (pc + 3) (lv) (tL (lmin_ x y) :: st)) : GG p l e R s m args below meth c nL A DD Q kc ks σ (pc) (lv) (tL y :: tL x :: st) := fun H locs ls h1 h2 h3 => va_mmin_long X.1 X.2.1 (by rw [X.2.2.1, h3.1]) X.2.2.2.1 (X.2.2.2.2.1 _ hl rfl) (X.2.2.2.2.1 _ hst rfl) (X.2.2.2.2.1 _ hini rfl) (X.2.2.2.2.1 _ hcd rfl) hf (by rw [tv_cats]; exact hlo) hc hs hd (kk H locs ls h1 h2 h3)
theorem r_run {mc ms : Nat} {H : Heap} {locs : List Loc} {ls : Array Slot} {st0 rest : List Value} {res : Option TV} {σ' : Hp} {a : Array Value} (hA : ∀ q, s.heap.size ≤ q → A q) (h1 : wld A DD σ H) (h2 : va_S A s.heap H locs) (hr : va_Run p l e R s m args below meth c H locs kc ks mc ms (F0 m pc ls st0) rest (Post DD σ res σ' a) (dm σ))
    (kk : ∀ (H1 : Heap) (locs1 : List Loc), wld A DD σ' H1 → va_S A s.heap H1 locs1 → W p l e R s m args below meth c H1 locs1 (kc + mc) (ks + ms) Q (F0 m (pc + 3) ls ((res.map tv).toList ++ rest))) : W p l e R s m args below meth c H locs kc ks Q (F0 m pc ls st0) := by
  intro T hT X
  obtain ⟨v, st₀, t, T', L, h0, X', hL, e1, e2, ⟨⟨hv, hw⟩, hz, hk⟩, sg⟩ := hr T hT X
  cases hv
  rw [h0] at hz hk
  have hin := h1.in (fun q h => hA q (Nat.le_trans h2.1 h))
  obtain ⟨t2, a1, b1⟩ := kk T'.heap (locs ++ L) (by rw [e1]; exact hw.mono hin) ⟨Nat.le_trans h2.1 (by rw [e1]; exact hz), fun q q1 q2 => by rw [e1, hk q (Nat.lt_of_lt_of_le q1 h2.1) (fun z => q2 (hin q z))]; exact h2.2.1 q q1 q2, fun q hq => by
      rcases List.mem_append.mp hq with h | h
      · exact h2.2.2 q h
      · exact hin _ (hL q h)⟩ T' rfl X'
  exact ⟨t2, sg t2 a1, b1⟩
theorem ret_stk (res : Option TV) (st : List TV) : (res.map tv).toList ++ st.map tv = (res.toList ++ st).map tv := by cases res <;> rfl
theorem pre_in {H : Heap} {locs : List Loc} {As : List TV} (X : CX p s m args c cc nL A DD own) (h1 : wld A DD σ H) (h2 : va_S A s.heap H locs) : ∀ U : State, U.heap = H → s.WarmedH U.vm → Pre DD As σ (As.map tv).toArray U := fun U hU hW => ⟨rfl, by rw [hU]; exact h1.self, X.2.2.2.2.2.1.to hU h2 hW (h1.in (fun q h => X.2.2.2.2.2.2 q (Nat.le_trans h2.1 h)))⟩
theorem r_callV (X : CX p s m args c cc nL A DD own) {y : MethodName} {bytes : ByteArray} {maxL index n : Nat} {ret : Option FieldType} {rm : Room} (As : List TV) {res : Option TV} {σ' : Hp} {r : Option Nat} {ci b : Nat} (hr : is_O σ r ci = some b) (hci : ci < 12) (hl : Cond.methodLink own index y ∈ lw_tbl) (hin : Cond.instanceMethod y ∈ lw_tbl) (hsel : Cond.selects (kR ci) y y ∈ lw_tbl) (hM : CT l DD y bytes maxL ret rm (tR r :: As) σ res σ') (hcd : Cond.code y bytes maxL ret ∈ lw_tbl) (hini : Cond.initialized y.cls ∈ lw_tbl) (hdd : y.cls ≠ "java/lang/invoke/MethodHandle" ∧ y.cls ≠ "java/lang/invoke/VarHandle" ∧ (parseMethodDescriptor y.desc).map (fun d => d.parameters.length) = some n) (hn : As.length = n) (hR : rm.frames + 1 ≤ R.frames ∧ 8 + (maxL + 11) + rm.locals ≤ R.locals) (hroom : (st.map tw_).sum ≤ 8) (hf : kc + rm.cells ≤ R.cells ∧ ks + rm.slots ≤ R.slots) (hd : decode cc pc = .ok (.invokevirtual index, 3)) (kk : GG p l e R s m args below meth c nL A DD Q (kc + rm.cells) (ks + rm.slots) (σ') (pc + 3) (lv) (res.toList ++ st)) : GG p l e R s m args below meth c nL A DD Q kc ks σ (pc) (lv) (As.reverse ++ tR r :: st) := by
  intro H locs ls h1 h2 h3
  have ht : ∀ w ∈ lw_tbl.filter goodWord, w.before args s = true := fun w hw => X.2.2.2.2.1 w (List.mem_filter.mp hw).1 (List.mem_filter.mp hw).2
  obtain ⟨rfl, hc⟩ := is_O_spec hr
  obtain ⟨g1, g2, g3, cell, q1, q2, q3, q4⟩ := h1.2.1 b ci hc
  refine r_run X.2.2.2.2.2.2 h1 h2 (va_runV (As := As.map tv) (rest := st.map tv) (b := b) (C := kR ci) (g := F0 m pc ls ((As.reverse ++ tR (some b) :: st).map tv)) ⟨X.1, X.2.1, X.2.2.1, X.2.2.2.1, ht⟩ hM ⟨callB_of n ht (wsM_good hcd) rfl rfl rfl (X.2.2.2.2.1 _ hini rfl) (X.2.2.2.2.1 _ hl rfl) hdd hR, X.2.2.2.2.1 _ hin rfl, X.2.2.2.2.1 _ hsel rfl⟩ ⟨Pre_blind, ⟨cell, q1, by rw [q3]; rfl, by rw [q2]; exact (X.2.2.2.2.2.1.1.1 ci _ (kcl_at hci)).2.1⟩, pre_in X h1 h2⟩ rfl (by rw [List.length_map]; exact hn) h3.1 (by show (List.map tv (As.reverse ++ tR (some b) :: st)) = _; rw [List.map_append, List.map_reverse]; rfl) (lv_room (m := m) (pc := pc) (ls := ls) (rest := ((As.reverse ++ tR (some b) :: st).map tv)) (by rw [tv_cats]; exact hroom)) hd hf) fun H1 locs1 w1 w2 => ?_
  rw [ret_stk]
  exact kk H1 locs1 ls w1 w2 h3
theorem r_callS (X : CX p s m args c cc nL A DD own) {y : MethodName} {bytes : ByteArray} {maxL index n : Nat} {ret : Option FieldType} {rm : Room} (As : List TV) {res : Option TV} {σ' : Hp} (hl : Cond.methodLink own index y ∈ lw_tbl) (hst : Cond.static y ∈ lw_tbl) (hM : CT l DD y bytes maxL ret rm As σ res σ') (hcd : Cond.code y bytes maxL ret ∈ lw_tbl) (hini : Cond.initialized y.cls ∈ lw_tbl) (hdd : y.cls ≠ "java/lang/invoke/MethodHandle" ∧ y.cls ≠ "java/lang/invoke/VarHandle" ∧ (parseMethodDescriptor y.desc).map (fun d => d.parameters.length) = some n) (hn : As.length = n) (hR : rm.frames + 1 ≤ R.frames ∧ 8 + (maxL + 11) + rm.locals ≤ R.locals) (hroom : (st.map tw_).sum ≤ 8) (hf : kc + rm.cells ≤ R.cells ∧ ks + rm.slots ≤ R.slots) (hd : decode cc pc = .ok (.invokestatic index, 3)) (kk : GG p l e R s m args below meth c nL A DD Q (kc + rm.cells) (ks + rm.slots) (σ') (pc + 3) (lv) (res.toList ++ st)) : GG p l e R s m args below meth c nL A DD Q kc ks σ (pc) (lv) (As.reverse ++ st) := by
  intro H locs ls h1 h2 h3
  have ht : ∀ w ∈ lw_tbl.filter goodWord, w.before args s = true := fun w hw => X.2.2.2.2.1 w (List.mem_filter.mp hw).1 (List.mem_filter.mp hw).2
  refine r_run X.2.2.2.2.2.2 h1 h2 (va_runS (As := As.map tv) (rest := st.map tv) (g := F0 m pc ls ((As.reverse ++ st).map tv)) ⟨X.1, X.2.1, X.2.2.1, X.2.2.2.1, ht⟩ hM ⟨callB_of n ht (wsM_good hcd) rfl rfl rfl (X.2.2.2.2.1 _ hini rfl) (X.2.2.2.2.1 _ hl rfl) hdd hR, X.2.2.2.2.1 _ hst rfl⟩ ⟨Pre_blind, pre_in X h1 h2⟩ rfl (by rw [List.length_map]; exact hn) h3.1 (by show (List.map tv (As.reverse ++ st)) = _; rw [List.map_append, List.map_reverse]) (lv_room (m := m) (pc := pc) (ls := ls) (rest := ((As.reverse ++ st).map tv)) (by rw [tv_cats]; exact hroom)) hd hf) fun H1 locs1 w1 w2 => ?_
  rw [ret_stk]
  exact kk H1 locs1 ls w1 w2 h3
theorem r_callI (X : CX p s m args c cc nL A DD own) {y : MethodName} {bytes : ByteArray} {maxL index n : Nat} {ret : Option FieldType} {rm : Room} (As : List TV) {res : Option TV} {σ' : Hp} {r : Option Nat} {b : Nat} (hr : r = some b) (hl : Cond.methodLink own index y ∈ lw_tbl) (hin : Cond.instanceMethod y ∈ lw_tbl) (hy1 : y.name = "<init>") (hM : CT l DD y bytes maxL none rm (tR r :: As) σ res σ') (hcd : Cond.code y bytes maxL none ∈ lw_tbl) (hini : Cond.initialized y.cls ∈ lw_tbl) (hdd : y.cls ≠ "java/lang/invoke/MethodHandle" ∧ y.cls ≠ "java/lang/invoke/VarHandle" ∧ (parseMethodDescriptor y.desc).map (fun d => d.parameters.length) = some n) (hn : As.length = n) (hR : rm.frames + 1 ≤ R.frames ∧ 8 + (maxL + 11) + rm.locals ≤ R.locals) (hroom : (st.map tw_).sum ≤ 8) (hf : kc + rm.cells ≤ R.cells ∧ ks + rm.slots ≤ R.slots) (hd : decode cc pc = .ok (.invokespecial index, 3)) (kk : GG p l e R s m args below meth c nL A DD Q (kc + rm.cells) (ks + rm.slots) (σ') (pc + 3) (lv) (res.toList ++ st)) : GG p l e R s m args below meth c nL A DD Q kc ks σ (pc) (lv) (As.reverse ++ tR r :: st) := by
  intro H locs ls h1 h2 h3
  have ht : ∀ w ∈ lw_tbl.filter goodWord, w.before args s = true := fun w hw => X.2.2.2.2.1 w (List.mem_filter.mp hw).1 (List.mem_filter.mp hw).2
  subst hr
  refine r_run X.2.2.2.2.2.2 h1 h2 (va_runI (As := As.map tv) (rest := st.map tv) (b := b) (g := F0 m pc ls ((As.reverse ++ tR (some b) :: st).map tv)) ⟨X.1, X.2.1, X.2.2.1, X.2.2.2.1, ht⟩ hM ⟨callB_of n ht (wsM_good hcd) rfl rfl rfl (X.2.2.2.2.1 _ hini rfl) (X.2.2.2.2.1 _ hl rfl) hdd hR, hy1, X.2.2.2.2.1 _ hin rfl⟩ ⟨Pre_blind, pre_in (As := tR (some b) :: As) X h1 h2⟩ rfl (by rw [List.length_map]; exact hn) h3.1 (by show (List.map tv (As.reverse ++ tR (some b) :: st)) = _; rw [List.map_append, List.map_reverse]; rfl) (lv_room (m := m) (pc := pc) (ls := ls) (rest := ((As.reverse ++ tR (some b) :: st).map tv)) (by rw [tv_cats]; exact hroom)) hd hf) fun H1 locs1 w1 w2 => ?_
  rw [ret_stk]
  exact kk H1 locs1 ls w1 w2 h3
theorem r_callIN (X : CX p s m args c cc nL A DD own) {y : MethodName} {bytes : ByteArray} {maxL index n : Nat} {ret : Option FieldType} {rm : Room} (As : List TV) {res : Option TV} {σ' : Hp} {r : Option Nat} {b : Nat} {host : String} (hr : r = some b) (hl : Cond.methodLinkNest own index y host ∈ nests) (hin : Cond.instanceMethod y ∈ lw_tbl) (hy1 : y.name = "<init>") (hM : CT l DD y bytes maxL none rm (tR r :: As) σ res σ') (hcd : Cond.code y bytes maxL none ∈ lw_tbl) (hini : Cond.initialized y.cls ∈ lw_tbl) (hdd : y.cls ≠ "java/lang/invoke/MethodHandle" ∧ y.cls ≠ "java/lang/invoke/VarHandle" ∧ (parseMethodDescriptor y.desc).map (fun d => d.parameters.length) = some n) (hn : As.length = n) (hR : rm.frames + 1 ≤ R.frames ∧ 8 + (maxL + 11) + rm.locals ≤ R.locals) (hroom : (st.map tw_).sum ≤ 8) (hf : kc + rm.cells ≤ R.cells ∧ ks + rm.slots ≤ R.slots) (hd : decode cc pc = .ok (.invokespecial index, 3)) (kk : GG p l e R s m args below meth c nL A DD Q (kc + rm.cells) (ks + rm.slots) (σ') (pc + 3) (lv) (res.toList ++ st)) : GG p l e R s m args below meth c nL A DD Q kc ks σ (pc) (lv) (As.reverse ++ tR r :: st) := by
  intro H locs ls h1 h2 h3
  have ht : ∀ w ∈ lw_tbl.filter goodWord, w.before args s = true := fun w hw => X.2.2.2.2.1 w (List.mem_filter.mp hw).1 (List.mem_filter.mp hw).2
  subst hr
  refine r_run X.2.2.2.2.2.2 h1 h2 (va_runIN (As := As.map tv) (rest := st.map tv) (b := b) (host := host) (g := F0 m pc ls ((As.reverse ++ tR (some b) :: st).map tv)) ⟨X.1, X.2.1, X.2.2.1, X.2.2.2.1, ht⟩ hM ⟨va_cnB n ht (wsM_good hcd) rfl rfl rfl (X.2.2.2.2.2.1.2.1 _ hl) (X.2.2.2.2.1 _ hini rfl) hdd hR, hy1, X.2.2.2.2.1 _ hin rfl⟩ ⟨Pre_blind, pre_in (As := tR (some b) :: As) X h1 h2⟩ rfl (by rw [List.length_map]; exact hn) h3.1 (by show (List.map tv (As.reverse ++ tR (some b) :: st)) = _; rw [List.map_append, List.map_reverse]; rfl) (lv_room (m := m) (pc := pc) (ls := ls) (rest := ((As.reverse ++ tR (some b) :: st).map tv)) (by rw [tv_cats]; exact hroom)) hd hf) fun H1 locs1 w1 w2 => ?_
  rw [ret_stk]
  exact kk H1 locs1 ls w1 w2 h3
theorem r_iret {σ0 : Hp} (X : CX p s m args c cc nL (dm σ0) DD own) {x : Int32} (hret : meth.sig.returnType = some .int) (hlk : meth.locks = false) (hd : decode cc pc = .ok (.ireturn, 1)) : GG p l e R s m args below meth c nL (dm σ0) DD (MQ below (Post DD σ0 (some (tI x)) σ) args s kc ks (dm σ0)) kc ks σ (pc) (lv) ([tI x]) := fun H locs ls h1 h2 h3 => W.iret X.1 X.2.1 hret (fun t ht hW => ⟨⟨rfl, by rw [ht]; exact h1⟩, h2.F ht⟩) h2.2.2 hd hlk
theorem r_lret {σ0 : Hp} (X : CX p s m args c cc nL (dm σ0) DD own) {x : Int64} (hret : meth.sig.returnType = some .long) (hlk : meth.locks = false) (hd : decode cc pc = .ok (.lreturn, 1)) : GG p l e R s m args below meth c nL (dm σ0) DD (MQ below (Post DD σ0 (some (tL x)) σ) args s kc ks (dm σ0)) kc ks σ (pc) (lv) ([tL x]) := fun H locs ls h1 h2 h3 => W.lret X.1 X.2.1 hret (fun t ht hW => ⟨⟨rfl, by rw [ht]; exact h1⟩, h2.F ht⟩) h2.2.2 hd hlk
theorem r_vret {σ0 : Hp} (X : CX p s m args c cc nL (dm σ0) DD own) (hret : meth.sig.returnType = none) (hlk : meth.locks = false) (hd : decode cc pc = .ok (.return_, 1)) : GG p l e R s m args below meth c nL (dm σ0) DD (MQ below (Post DD σ0 none σ) args s kc ks (dm σ0)) kc ks σ (pc) (lv) ([]) := fun H locs ls h1 h2 h3 => W.vret X.1 X.2.1 hret (fun t ht hW => ⟨⟨rfl, by rw [ht]; exact h1⟩, h2.F ht⟩) h2.2.2 hd hlk
theorem r_zret {σ0 : Hp} (X : CX p s m args c cc nL (dm σ0) DD own) {x : Int32} (hret : meth.sig.returnType = some .boolean) (hlk : meth.locks = false) (hz : x = 0 ∨ x = 1) (hd : decode cc pc = .ok (.ireturn, 1)) : GG p l e R s m args below meth c nL (dm σ0) DD (MQ below (Post DD σ0 (some (tI x)) σ) args s kc ks (dm σ0)) kc ks σ (pc) (lv) ([tI x]) := fun H locs ls h1 h2 h3 => W.zret X.1 X.2.1 hret (by rcases hz with rfl | rfl <;> rfl) (fun t ht hW => ⟨⟨rfl, by rw [ht]; exact h1⟩, h2.F ht⟩) h2.2.2 hd hlk
theorem r_aret {σ0 : Hp} {C : String} {x : Option Nat} (X : CX p s m args c cc nL (dm σ0) DD own) (hret : meth.sig.returnType = some (.object C)) (hlk : meth.locks = false) (hd : decode cc pc = .ok (.areturn, 1)) : GG p l e R s m args below meth c nL (dm σ0) DD (MQ below (Post DD σ0 (some (tR x)) σ) args s kc ks (dm σ0)) kc ks σ (pc) (lv) ([tR x]) := fun H locs ls h1 h2 h3 => W.aret X.1 X.2.1 hret (Or.inl ⟨C, rfl⟩) (va_rf_or x) (fun t ht hW => ⟨⟨rfl, by rw [ht]; exact h1⟩, h2.F ht⟩) h2.2.2 hd hlk
end RX
/-- a method's entry -/
def tv_args : Nat → List TV → List (Nat × TV)
  | _, [] => []
  | i, v :: vs => (i, v) :: tv_args (i + tw_ v) vs
theorem tv_args_eq (vs : List TV) : ∀ i, lv_args i (vs.map tv) = lvm (tv_args i vs) := by
  induction vs with
  | nil => intro i; rfl
  | cons v vs ih =>
    intro i
    have h2 : (tv v).category = tw_ v := tv_cat v
    rcases v with v | v | v
    · simp only [List.map_cons, lv_args, tv_args, lvm, h2, tw_]
      simp [ih, lvm]
    · simp only [List.map_cons, lv_args, tv_args, lvm, h2, tw_]
      simp [ih, lvm]
    · simp only [List.map_cons, lv_args, tv_args, lvm, h2, tw_]
      simp [ih, lvm]
theorem tv_sl (vs : List TV) : (lg_sl (vs.map tv)).length = (vs.map tw_).sum := by
  induction vs with
  | nil => rfl
  | cons v vs ih =>
    have h2 : (tv v).category = tw_ v := tv_cat v
    have h3 : lg_sl (tv v :: vs.map tv) = (if (tv v).category = 2 then [.val (tv v), .second] else [.val (tv v)]) ++ lg_sl (vs.map tv) := rfl
    rw [List.map_cons, h3, List.length_append, ih, h2, List.map_cons, List.sum_cons]
    rcases v with v | v | v <;> simp [tw_]
theorem r_met {l : Launch} {DD : DT} {y : MethodName} {cc : ByteArray} {n : Nat} {ret : Option FieldType} {rm : Room} {As : List TV} {σ : Hp} {res : Option TV} {σ' : Hp} (hy : plainName y.cls = true) (hn : (As.map tw_).sum ≤ n)
    (body : ∀ (p : Program) (e : Env) (s : State) (m : MethodId) (args : Array Value) (below : List Frame) (meth : Method) (c : Code), CX p s m args c cc n (dm σ) DD y.cls → meth.sig.returnType = ret → meth.locks = false → meth.name = y.name →
      GG p l e rm s m args below meth c n (dm σ) DD (MQ below (Post DD σ res σ') args s rm.cells rm.slots (dm σ)) 0 0 σ 0 (tv_args 0 As) []) : CT l DD y cc n ret rm As σ res σ' := by
  refine Met.ofW (cc := cc) (maxL := n) (ret := ret) hy rfl ?_
  intro p e s m args below meth c s₁ B hml hv
  obtain ⟨rfl, hw, hK⟩ := hv
  have hts := atoms_spec (ws := wsM y cc n ret) B.pre
  have hown : s.vm.findClass y.cls = some m.cls := findClass_of_methodNamed B.named
  have X : CX p s m (As.map tv).toArray c cc n (dm σ) DD y.cls := ⟨B.exec, B.bytes, hml, hown, TW_of hts, hK, fun q h => Or.inr (by rw [← hw.1]; exact h)⟩
  have hl := lv_entry (As.map tv) (n := n) (by rw [tv_sl]; exact hn)
  rw [lg_entry_eq]
  rw [tv_args_eq] at hl
  exact body p e s m _ below meth c X B.returns B.notSynchronized (name_of_methodNamed B.named B.method).1 s.heap [] _ hw va_S.rf hl
end
section
def pb {α β : Type} (o : Option (α × Hp)) (f : α → Hp → Option β) : Option β := match o with
  | none => none
  | some q => f q.1 q.2
theorem pbind {α β : Type} {o : Option (α × Hp)} {f : α → Hp → Option β} {b : β} (h : pb o f = some b) : ∃ a σ, o = some (a, σ) ∧ f a σ = some b := by
  cases o with
  | none => cases h
  | some q => exact ⟨q.1, q.2, rfl, h⟩
theorem sw_out {x : Int32} (hi : Nat) (l : List Nat) (hl : l = List.range (hi + 1)) (h : ∀ j ∈ l, ¬ x = Int32.ofNat j) : x.toInt < 0 ∨ (hi : Int) < x.toInt := by
  by_cases h1 : x.toInt < 0
  · exact Or.inl h1
  · by_cases h2 : (hi : Int) < x.toInt
    · exact Or.inr h2
    · exfalso
      refine h x.toInt.toNat ?_ ?_
      · rw [hl, List.mem_range]; omega
      · have e : ((x.toInt.toNat : Nat) : Int) = x.toInt := Int.toNat_of_nonneg (by omega)
        apply Int32.toInt_inj.mp
        have hb : x.toInt < 2 ^ 31 := Int32.toInt_lt x
        rw [show Int32.ofNat x.toInt.toNat = nI x.toInt.toNat from rfl, nI_toInt (by omega), e]
theorem sl0 : Cond.selects "WindowCache" ⟨"WindowCache", "ask", "(I)I"⟩ ⟨"WindowCache", "ask", "(I)I"⟩ ∈ lw_tbl := List.mem_append_left _ (List.mem_of_getElem? (i := 0) (by decide +kernel))
theorem sl1 : Cond.selects "WindowCache" ⟨"WindowCache", "isSeen", "(LWindowCache$Entry;)Z"⟩ ⟨"WindowCache", "isSeen", "(LWindowCache$Entry;)Z"⟩ ∈ lw_tbl := List.mem_append_left _ (List.mem_of_getElem? (i := 1) (by decide +kernel))
theorem sl2 : Cond.selects "WindowCache" ⟨"WindowCache", "dropFromMap", "(LWindowCache$Entry;I)V"⟩ ⟨"WindowCache", "dropFromMap", "(LWindowCache$Entry;I)V"⟩ ∈ lw_tbl := List.mem_append_left _ (List.mem_of_getElem? (i := 2) (by decide +kernel))
theorem sl3 : Cond.selects "WindowCache" ⟨"WindowCache", "tidy", "()V"⟩ ⟨"WindowCache", "tidy", "()V"⟩ ∈ lw_tbl := List.mem_append_left _ (List.mem_of_getElem? (i := 3) (by decide +kernel))
theorem sl4 : Cond.selects "WindowCache" ⟨"WindowCache", "takeNotes", "(LWindowCache$Notes;)V"⟩ ⟨"WindowCache", "takeNotes", "(LWindowCache$Notes;)V"⟩ ∈ lw_tbl := List.mem_append_left _ (List.mem_of_getElem? (i := 4) (by decide +kernel))
theorem sl5 : Cond.selects "WindowCache" ⟨"WindowCache", "takeTasks", "()V"⟩ ⟨"WindowCache", "takeTasks", "()V"⟩ ∈ lw_tbl := List.mem_append_left _ (List.mem_of_getElem? (i := 5) (by decide +kernel))
theorem sl6 : Cond.selects "WindowCache" ⟨"WindowCache", "expire", "()V"⟩ ⟨"WindowCache", "expire", "()V"⟩ ∈ lw_tbl := List.mem_append_left _ (List.mem_of_getElem? (i := 6) (by decide +kernel))
theorem sl7 : Cond.selects "WindowCache" ⟨"WindowCache", "evict", "(LWindowCache$Entry;)V"⟩ ⟨"WindowCache", "evict", "(LWindowCache$Entry;)V"⟩ ∈ lw_tbl := List.mem_append_left _ (List.mem_of_getElem? (i := 7) (by decide +kernel))
theorem sl8 : Cond.selects "WindowCache" ⟨"WindowCache", "loserOf", "(LWindowCache$Entry;LWindowCache$Entry;)LWindowCache$Entry;"⟩ ⟨"WindowCache", "loserOf", "(LWindowCache$Entry;LWindowCache$Entry;)LWindowCache$Entry;"⟩ ∈ lw_tbl := List.mem_append_left _ (List.mem_of_getElem? (i := 8) (by decide +kernel))
theorem sl9 : Cond.selects "WindowCache" ⟨"WindowCache", "nextDraw", "()I"⟩ ⟨"WindowCache", "nextDraw", "()I"⟩ ∈ lw_tbl := List.mem_append_left _ (List.mem_of_getElem? (i := 9) (by decide +kernel))
theorem sl10 : Cond.selects "WindowCache" ⟨"WindowCache", "climbIfDue", "()V"⟩ ⟨"WindowCache", "climbIfDue", "()V"⟩ ∈ lw_tbl := List.mem_append_left _ (List.mem_of_getElem? (i := 10) (by decide +kernel))
theorem sl11 : Cond.selects "WindowCache" ⟨"WindowCache", "entriesInMap", "(Z)I"⟩ ⟨"WindowCache", "entriesInMap", "(Z)I"⟩ ∈ lw_tbl := List.mem_append_left _ (List.mem_of_getElem? (i := 11) (by decide +kernel))
theorem sl12 : Cond.selects "WindowCache" ⟨"WindowCache", "keysOnTheirWay", "()I"⟩ ⟨"WindowCache", "keysOnTheirWay", "()I"⟩ ∈ lw_tbl := List.mem_append_left _ (List.mem_of_getElem? (i := 12) (by decide +kernel))
theorem sl13 : Cond.selects "java/lang/Throwable" ⟨"java/lang/Throwable", "fillInStackTrace", "(I)Ljava/lang/Throwable;"⟩ ⟨"java/lang/Throwable", "fillInStackTrace", "(I)Ljava/lang/Throwable;"⟩ ∈ lw_tbl := List.mem_append_left _ (List.mem_of_getElem? (i := 13) (by decide +kernel))
theorem sl14 : Cond.selects "WindowCache" ⟨"WindowCache", "store", "(IIII)Z"⟩ ⟨"WindowCache", "store", "(IIII)Z"⟩ ∈ lw_tbl := List.mem_append_left _ (List.mem_of_getElem? (i := 14) (by decide +kernel))
theorem sl15 : Cond.selects "WindowCache" ⟨"WindowCache", "fill", "(LWindowCache$Entry;III)V"⟩ ⟨"WindowCache", "fill", "(LWindowCache$Entry;III)V"⟩ ∈ lw_tbl := List.mem_append_left _ (List.mem_of_getElem? (i := 15) (by decide +kernel))
theorem sl16 : Cond.selects "WindowCache" ⟨"WindowCache", "isWelcome", "(LWindowCache$Way;I)Z"⟩ ⟨"WindowCache", "isWelcome", "(LWindowCache$Way;I)Z"⟩ ∈ lw_tbl := List.mem_append_left _ (List.mem_of_getElem? (i := 16) (by decide +kernel))
theorem sl17 : Cond.selects "WindowCacheModel" ⟨"WindowCacheModel", "firstStep", "()I"⟩ ⟨"WindowCacheModel", "firstStep", "()I"⟩ ∈ lw_tbl := List.mem_append_left _ (List.mem_of_getElem? (i := 17) (by decide +kernel))
theorem sl18 : Cond.selects "WindowCacheModel" ⟨"WindowCacheModel", "got", "(I)I"⟩ ⟨"WindowCacheModel", "got", "(I)I"⟩ ∈ lw_tbl := List.mem_append_left _ (List.mem_of_getElem? (i := 18) (by decide +kernel))
theorem sl19 : Cond.selects "WindowCacheModel" ⟨"WindowCacheModel", "seen", "(I)I"⟩ ⟨"WindowCacheModel", "seen", "(I)I"⟩ ∈ lw_tbl := List.mem_append_left _ (List.mem_of_getElem? (i := 19) (by decide +kernel))
theorem sl20 : Cond.selects "WindowCacheModel" ⟨"WindowCacheModel", "isOver", "(I)Z"⟩ ⟨"WindowCacheModel", "isOver", "(I)Z"⟩ ∈ lw_tbl := List.mem_append_left _ (List.mem_of_getElem? (i := 20) (by decide +kernel))
theorem sl21 : Cond.selects "WindowCacheModel" ⟨"WindowCacheModel", "end", "(I)J"⟩ ⟨"WindowCacheModel", "end", "(I)J"⟩ ∈ lw_tbl := List.mem_append_left _ (List.mem_of_getElem? (i := 21) (by decide +kernel))
theorem sl22 : Cond.selects "WindowCacheModel" ⟨"WindowCacheModel", "lay", "(IIII)Z"⟩ ⟨"WindowCacheModel", "lay", "(IIII)Z"⟩ ∈ lw_tbl := List.mem_append_left _ (List.mem_of_getElem? (i := 22) (by decide +kernel))
theorem sl23 : Cond.selects "WindowCacheModel" ⟨"WindowCacheModel", "hear", "(II)V"⟩ ⟨"WindowCacheModel", "hear", "(II)V"⟩ ∈ lw_tbl := List.mem_append_left _ (List.mem_of_getElem? (i := 23) (by decide +kernel))
theorem sl24 : Cond.selects "WindowCacheModel" ⟨"WindowCacheModel", "drop", "(II)V"⟩ ⟨"WindowCacheModel", "drop", "(II)V"⟩ ∈ lw_tbl := List.mem_append_left _ (List.mem_of_getElem? (i := 24) (by decide +kernel))
theorem sl25 : Cond.selects "WindowCacheModel" ⟨"WindowCacheModel", "task", "(II)V"⟩ ⟨"WindowCacheModel", "task", "(II)V"⟩ ∈ lw_tbl := List.mem_append_left _ (List.mem_of_getElem? (i := 25) (by decide +kernel))
theorem sl26 : Cond.selects "WindowCacheModel" ⟨"WindowCacheModel", "maintenance", "()V"⟩ ⟨"WindowCacheModel", "maintenance", "()V"⟩ ∈ lw_tbl := List.mem_append_left _ (List.mem_of_getElem? (i := 26) (by decide +kernel))
theorem sl27 : Cond.selects "WindowCacheModel" ⟨"WindowCacheModel", "workNotes", "()V"⟩ ⟨"WindowCacheModel", "workNotes", "()V"⟩ ∈ lw_tbl := List.mem_append_left _ (List.mem_of_getElem? (i := 27) (by decide +kernel))
theorem sl28 : Cond.selects "WindowCacheModel" ⟨"WindowCacheModel", "count1", "(I)V"⟩ ⟨"WindowCacheModel", "count1", "(I)V"⟩ ∈ lw_tbl := List.mem_append_left _ (List.mem_of_getElem? (i := 28) (by decide +kernel))
theorem sl29 : Cond.selects "WindowCacheModel" ⟨"WindowCacheModel", "place", "(II)I"⟩ ⟨"WindowCacheModel", "place", "(II)I"⟩ ∈ lw_tbl := List.mem_append_left _ (List.mem_of_getElem? (i := 29) (by decide +kernel))
theorem sl30 : Cond.selects "WindowCacheModel" ⟨"WindowCacheModel", "touched", "(I)V"⟩ ⟨"WindowCacheModel", "touched", "(I)V"⟩ ∈ lw_tbl := List.mem_append_left _ (List.mem_of_getElem? (i := 30) (by decide +kernel))
theorem sl31 : Cond.selects "WindowCacheModel" ⟨"WindowCacheModel", "latest", "(II)V"⟩ ⟨"WindowCacheModel", "latest", "(II)V"⟩ ∈ lw_tbl := List.mem_append_left _ (List.mem_of_getElem? (i := 31) (by decide +kernel))
theorem sl32 : Cond.selects "WindowCacheModel" ⟨"WindowCacheModel", "lower", "()V"⟩ ⟨"WindowCacheModel", "lower", "()V"⟩ ∈ lw_tbl := List.mem_append_left _ (List.mem_of_getElem? (i := 32) (by decide +kernel))
theorem sl33 : Cond.selects "WindowCacheModel" ⟨"WindowCacheModel", "weightOf", "(I)I"⟩ ⟨"WindowCacheModel", "weightOf", "(I)I"⟩ ∈ lw_tbl := List.mem_append_left _ (List.mem_of_getElem? (i := 33) (by decide +kernel))
theorem sl34 : Cond.selects "WindowCacheModel" ⟨"WindowCacheModel", "earliest", "(I)I"⟩ ⟨"WindowCacheModel", "earliest", "(I)I"⟩ ∈ lw_tbl := List.mem_append_left _ (List.mem_of_getElem? (i := 34) (by decide +kernel))
theorem sl35 : Cond.selects "WindowCacheModel" ⟨"WindowCacheModel", "workTasks", "()V"⟩ ⟨"WindowCacheModel", "workTasks", "()V"⟩ ∈ lw_tbl := List.mem_append_left _ (List.mem_of_getElem? (i := 35) (by decide +kernel))
theorem sl36 : Cond.selects "WindowCacheModel" ⟨"WindowCacheModel", "expire", "()V"⟩ ⟨"WindowCacheModel", "expire", "()V"⟩ ∈ lw_tbl := List.mem_append_left _ (List.mem_of_getElem? (i := 36) (by decide +kernel))
theorem sl37 : Cond.selects "WindowCacheModel" ⟨"WindowCacheModel", "shrink", "()V"⟩ ⟨"WindowCacheModel", "shrink", "()V"⟩ ∈ lw_tbl := List.mem_append_left _ (List.mem_of_getElem? (i := 37) (by decide +kernel))
theorem sl38 : Cond.selects "WindowCacheModel" ⟨"WindowCacheModel", "all", "()I"⟩ ⟨"WindowCacheModel", "all", "()I"⟩ ∈ lw_tbl := List.mem_append_left _ (List.mem_of_getElem? (i := 38) (by decide +kernel))
theorem sl39 : Cond.selects "WindowCacheModel" ⟨"WindowCacheModel", "nextCandidate", "()I"⟩ ⟨"WindowCacheModel", "nextCandidate", "()I"⟩ ∈ lw_tbl := List.mem_append_left _ (List.mem_of_getElem? (i := 39) (by decide +kernel))
theorem sl40 : Cond.selects "WindowCacheModel" ⟨"WindowCacheModel", "often0", "(I)I"⟩ ⟨"WindowCacheModel", "often0", "(I)I"⟩ ∈ lw_tbl := List.mem_append_left _ (List.mem_of_getElem? (i := 40) (by decide +kernel))
theorem sl41 : Cond.selects "WindowCacheModel" ⟨"WindowCacheModel", "drawn", "()Z"⟩ ⟨"WindowCacheModel", "drawn", "()Z"⟩ ∈ lw_tbl := List.mem_append_left _ (List.mem_of_getElem? (i := 41) (by decide +kernel))
theorem sl42 : Cond.selects "WindowCacheModel" ⟨"WindowCacheModel", "evict", "(I)V"⟩ ⟨"WindowCacheModel", "evict", "(I)V"⟩ ∈ lw_tbl := List.mem_append_left _ (List.mem_of_getElem? (i := 42) (by decide +kernel))
theorem sl43 : Cond.selects "WindowCacheModel" ⟨"WindowCacheModel", "climb", "()V"⟩ ⟨"WindowCacheModel", "climb", "()V"⟩ ∈ lw_tbl := List.mem_append_left _ (List.mem_of_getElem? (i := 43) (by decide +kernel))
theorem sl44 : Cond.selects "WindowCacheModel" ⟨"WindowCacheModel", "inMap", "(Z)I"⟩ ⟨"WindowCacheModel", "inMap", "(Z)I"⟩ ∈ lw_tbl := List.mem_append_left _ (List.mem_of_getElem? (i := 44) (by decide +kernel))
theorem sl45 : Cond.selects "WindowCacheModel" ⟨"WindowCacheModel", "onWay", "()I"⟩ ⟨"WindowCacheModel", "onWay", "()I"⟩ ∈ lw_tbl := List.mem_append_left _ (List.mem_of_getElem? (i := 45) (by decide +kernel))
end
section
/-! THROWS. A cell that nobody looks at is made (the exception) -/
def nw_X (σ : Hp) : Hp := ((σ.1.1 + 1, σ.1.2), σ.2)
theorem wld.skip {A : Nat → Prop} {DD : DT} {σ : Hp} {H H1 : Heap} (h : wld A DD σ H) (hz : H1.size = H.size + 1) (oq : ∀ q : Nat, q < H.size → H1[q]? = H[q]?) : wld A DD (nw_X σ) H1 := by
  refine ⟨by rw [hz, h.1]; rfl, fun b cb hb => ?_, fun b t x hb => ?_⟩
  · obtain ⟨g1, g2, g3, g4⟩ := h.2.1 b cb hb
    exact ⟨g1, g2, g3, g4.kept (oq b (h.ltC hb))⟩
  · obtain ⟨g1, q, g2, g3⟩ := h.2.2 b t x hb
    exact ⟨g1, q, g2, by rw [oq b (h.ltA (x := (t, x)) hb)]; exact g3⟩
section TH
variable {p : Program} {l : Launch} {e : Env} {R : Room} {s : State} {m : MethodId} {args : Array Value} {below : List Frame} {meth : Method} {c : Code} {T : State} {locs : List Loc} {kc ks : Nat}
/-- the state at the call, but with the heap of now -/
def nowAt (s T : State) : State := { s with heap := T.heap, slotsUsed := T.slotsUsed }
/-- a method that stands at T stands there, too, as if it had been called with the heap of now -/
theorem rebase (X : Stand p l e R s m args below meth c T locs kc ks) (hc : kc ≤ R.cells) (hs : ks ≤ R.slots) : Stand p l e { R with cells := R.cells - kc, slots := R.slots - ks } (nowAt s T) m args below meth c T [] 0 0 := by
  refine ⟨X.admits, X.cas, X.clock, X.frames, ?_, X.hears, X.method, X.code, X.here, X.tail, X.warmed, X.limits, X.bytes, ?_⟩
  · have h := X.room
    have hb := X.book
    simp only [State.hasRoom, Bool.and_eq_true, decide_eq_true_eq] at h ⊢
    obtain ⟨⟨⟨⟨h1, h2⟩, h3⟩, h4⟩, h5⟩ := h
    have z := X.heapSize
    have u := X.used
    refine ⟨⟨⟨⟨h1, h2⟩, ?_⟩, ?_⟩, hb⟩
    · show T.heap.size + (R.cells - kc) ≤ _
      omega
    · show T.slotsUsed + (R.slots - ks) ≤ _
      omega
  · have e1 := X.same.1
    have hd : (T.heap.toList.drop T.heap.size) = [] := by simp
    refine ⟨e1, Nat.le_refl _, Nat.le_refl _, ?_, ?_, fun a c h => ⟨c, h, rfl, rfl, fun _ _ => rfl⟩⟩
    · show T.slotsUsed = T.slotsUsed + ((T.heap.toList.drop T.heap.size).map (·.slots.size)).sum
      rw [hd]; rfl
    · show ((T.heap.toList.drop T.heap.size).map (·.slots.size)).sum ≤ 0
      rw [hd]; exact Nat.le_refl _
/-- what came since then, seen from the call -/
theorem rebase_back (X : Stand p l e R s m args below meth c T locs kc ks) {t : State} {k n : Nat} (h : (nowAt s T).sameButNew ({ t with vm := s.vm } : State) [] k n) : s.sameButNew ({ t with vm := s.vm } : State) locs (kc + k) (ks + n) := by
  have e1 := X.same.1
  have h2 : (T.setVm s.vm).sameButNew ({ t with vm := s.vm } : State) [] k n := by
    obtain ⟨q1, q2, q3, q4, q5, q6⟩ := h
    refine ⟨?_, q2, q3, q4, q5, q6⟩
    refine q1.trans ?_
    rw [e1]
    show ({ (nowAt s T).setFrames ({ t with vm := s.vm } : State).frames with heap := t.heap, slotsUsed := t.slotsUsed } : State) = { (s.setFrames (T.setVm s.vm).frames).setFrames ({ t with vm := s.vm } : State).frames with heap := t.heap, slotsUsed := t.slotsUsed }
    rw [State.setFrames_setFrames]
    rfl
  have h3 := X.same.trans h2
  rw [List.append_nil] at h3
  exact h3
theorem same_heap {s : State} {t : State} {k n : Nat} (h : s.sameButNew t [] k n) : ∀ q : Nat, q < s.heap.size → t.heap[q]? = s.heap[q]? := by
  intro q hq
  obtain ⟨-, -, -, -, -, h6⟩ := h
  obtain ⟨c, hc⟩ : ∃ c, s.heap[q]? = some c := ⟨s.heap[q], by simp [hq]⟩
  obtain ⟨c', h1, h2, h3, h4⟩ := h6 q c hc
  rw [hc, h1, h2]
  have : c'.slots = c.slots := Array.ext_getElem? fun i => h4 i (by simp)
  rw [this]
end TH
def xnames : List String := ["java/lang/RuntimeException", "java/lang/Exception"]
def xidx (k : Nat) : Nat := match k with
  | 0 => 108
  | _ => 129
def xcls (k : Nat) : Nat := match k with
  | 0 => 106
  | _ => 127
/-- where each word comes from that making an exception asks -/
def xsrc (k : Nat) (w : Cond) : Bool := (decide (w ∈ lw_tbl) && (goodWord w && w.onTables)) || (decide (w ∈ decls) || (decide (w = Cond.castable (xn k) (xn k)) || (decide (w = Cond.laysStatic "java/lang/Throwable" "UNASSIGNED_STACK" "[Ljava/lang/StackTraceElement;") || (decide (w = Cond.laysStatic "java/lang/Throwable" "SUPPRESSED_SENTINEL" "Ljava/util/List;") || (decide (w = Cond.isRef (.static "java/lang/Throwable" "UNASSIGNED_STACK" "[Ljava/lang/StackTraceElement;")) || decide (w = Cond.isRef (.static "java/lang/Throwable" "SUPPRESSED_SENTINEL" "Ljava/util/List;")))))))
theorem xsrc0 : (Bundle.ownAtoms0 "WindowCache" (xidx 0) (xn 0) xnames).all (xsrc 0) = true := by decide +kernel
theorem xsrc1 : (Bundle.ownAtoms0 "WindowCache" (xidx 1) (xn 1) xnames).all (xsrc 1) = true := by decide +kernel
theorem xsrc_all {k : Nat} (hk : k < 2) : (Bundle.ownAtoms0 "WindowCache" (xidx k) (xn k) xnames).all (xsrc k) = true := by
  rcases (show k = 0 ∨ k = 1 by omega) with rfl | rfl
  · exact xsrc0
  · exact xsrc1
theorem xatoms {DD : DT} {A : Nat → Prop} {args : Array Value} {s U : State} (hT : TW args s) (hv : U.vm = s.vm) (hK : KN DD A U) {k : Nat} (hk : k < 2) : ∀ w ∈ Bundle.ownAtoms0 "WindowCache" (xidx k) (xn k) xnames, w.before args U = true := by
  intro w hw
  have h := List.all_eq_true.mp (xsrc_all hk) w hw
  simp only [xsrc, Bool.or_eq_true, Bool.and_eq_true, decide_eq_true_eq] at h
  obtain ⟨-, -, -, -, -, -, k7, k8, k9, k10⟩ := hK
  rcases h with ⟨h1, h2, h3⟩ | h | h | h | h | h | h
  · exact va_tabs h3 hv.symm (hT w h1 h2)
  · exact va_Nw.use (by
      simp only [decls, List.mem_cons, List.not_mem_nil, or_false] at h
      rcases h with rfl | rfl | rfl <;> rfl) (k9 w h)
  · rw [h]; exact k10.cast hk
  · rw [h]; exact k7.lays
  · rw [h]; exact k8.lays
  · rw [h]; exact k7.isRef
  · rw [h]; exact k8.isRef
/-- what a throw leaves: the exception's cell is new and of its class, the world but for it is σ' -/
def PostT (DD : DT) (σ : Hp) (k : Nat) (σ' : Hp) (mc ms : Nat) : Array Value → State → Outcome → State → Prop := fun _ st oc t => ∃ x : Nat, oc = .threw x ∧ st.heap.size ≤ x ∧ (∃ ce : Cell, t.heap[x]? = some ce ∧ ce.vm = .none ∧ st.vm.findClass (xn k) = some ce.cls) ∧ wld (dm σ) DD σ' t.heap ∧ va_F (dm σ) st t ∧ st.WarmedH t.vm ∧ ∃ L, st.sameButNew ({ t with vm := st.vm } : State) L mc ms ∧ ∀ q ∈ L, dm σ q.base
/-- a method's contract where it throws the exception k -/
def TH (l : Launch) (DD : DT) (y : MethodName) (cc : ByteArray) (n : Nat) (ret : Option FieldType) (rm : Room) (As : List TV) (σ : Hp) (k : Nat) (σ' : Hp) : Prop := MetFree l y (headSpec (wsM y cc n ret) rm) (Pre DD As σ) (fun _ _ _ _ _ => True) (PostT DD σ k σ' rm.cells rm.slots)
def QT (below : List Frame) (Qc : Array Value → State → Outcome → State → Prop) (a : Array Value) (s : State) : State → Prop := fun t => ∃ o, t.status = .running ∧ Ended t below o ∧ Qc a s o t
section THR
variable {p : Program} {l : Launch} {e : Env} {R : Room} {s : State} {m : MethodId} {args : Array Value} {below : List Frame} {meth : Method} {c : Code} {cc : ByteArray} {nL : Nat} {DD : DT} {kc ks pc : Nat} {σ σ0 : Hp} {lv : List (Nat × TV)}
set_option maxHeartbeats 1000000 in
/-- new E; dup; E.<init>(); athrow: out of the method -/
theorem r_throw (X : CX p s m args c cc nL (dm σ0) DD "WindowCache") (hfl : l.flags = flags0) (hlk : meth.locks = false) (hex : c.exceptionTable.toList = []) {k : Nat} (hk : k < 2) (hkc : kc + 1 ≤ R.cells) (hks : ks + 6 ≤ R.slots) (hfr : 5 < R.frames) (hlo : 82 ≤ R.locals)
    (hw : Cond.classLink "WindowCache" (xcls k) (xn k) ∈ lw_tbl) (hw2 : Cond.instantiable (xn k) 6 ∈ lw_tbl) (hw3 : Cond.initialized (xn k) ∈ lw_tbl)
    (hd0 : decode cc pc = .ok (.new (xcls k), 3)) (hd1 : decode cc (pc + 3) = .ok (.dup, 1)) (hd2 : decode cc (pc + 4) = .ok (.invokespecial (xidx k), 3)) (hd3 : decode cc (pc + 7) = .ok (.athrow, 1)) :
    GG p l e R s m args below meth c nL (dm σ0) DD (QT below (PostT DD σ0 k (nw_X σ) (kc + 1) (ks + 6)) args s) kc ks σ pc lv [] := by
  intro H locs ls h1 h2 h3 T hT X0
  subst hT
  have hKN : KN DD (dm σ0) (nowAt s T) := X.2.2.2.2.2.1.to (U := nowAt s T) rfl h2 (State.WarmedH.refl s) (fun _ h => h)
  have hat := xatoms X.2.2.2.2.1 (U := nowAt s T) rfl hKN hk
  have htr : e.platform.stackTraces = false := by
    rw [X0.admits.2.2.2.2.1]
    show l.stackTraces = false
    rw [Launch.stackTraces, hfl]
    decide +kernel
  have X1 := rebase X0 (by omega) (by omega)
  obtain ⟨cX, hcX⟩ : ∃ cX, s.vm.findClass (xn k) = some cX := by
    obtain ⟨-, -, -, -, -, -, -, -, -, cx, hcx⟩ := hKN
    exact ⟨cx k, (hcx k k hk hk).1⟩
  have K : W p l e { R with cells := R.cells - kc, slots := R.slots - ks } (nowAt s T) m args below meth c T.heap [] 0 0 (fun t => t.status = .running ∧ Ended t below (.threw T.heap.size) ∧ s.WarmedH t.vm ∧ (nowAt s T).sameButNew ({ t with vm := s.vm } : State) [] 1 6 ∧ ∃ ce, t.heap[T.heap.size]? = some ce ∧ ce.vm = .none ∧ s.vm.findClass (xn k) = some ce.cls) (F0 m pc ls []) := by
    have hR1 : ({ R with cells := R.cells - kc, slots := R.slots - ks } : Room).frames = R.frames ∧ ({ R with cells := R.cells - kc, slots := R.slots - ks } : Room).locals = R.locals := ⟨rfl, rfl⟩
    have tb : ∀ w ∈ lw_tbl, goodWord w = true → w.onTables = true → w.before args (nowAt s T) = true := fun w q1 q2 q3 => va_tabs q3 (rfl : s.vm = (nowAt s T).vm) (X.2.2.2.2.1 w q1 q2)
    have a1 : (Cond.classLink "WindowCache" (xcls k) (xn k)).before args (nowAt s T) = true := tb _ hw rfl rfl
    have a2 : (Cond.instantiable (xn k) 6).before args (nowAt s T) = true := tb _ hw2 rfl rfl
    have a3 : (Cond.initialized (xn k)).before args (nowAt s T) = true := tb _ hw3 rfl rfl
    have a4 : (nowAt s T).vm.findClass "WindowCache" = some m.cls := X.2.2.2.1
    have a5 : (nowAt s T).vm.findClass (xn k) = some cX := hcX
    have a6 : 0 + 1 ≤ ({ R with cells := R.cells - kc, slots := R.slots - ks } : Room).cells := by show 0 + 1 ≤ R.cells - kc; omega
    have a7 : 0 + 6 ≤ ({ R with cells := R.cells - kc, slots := R.slots - ks } : Room).slots := by show 0 + 6 ≤ R.slots - ks; omega
    generalize ({ R with cells := R.cells - kc, slots := R.slots - ks } : Room) = R1 at a6 a7 hR1 ⊢
    refine W.newcK (cC := cX) (own := "WindowCache") (C := xn k) (index := xcls k) (n := 6) (g := F0 m pc ls []) X.1 X.2.1 a4 a1 a2 a3 rfl hd0 a6 a7 a5 rfl (fun H1 kC hkC e1 z1 o1 => ?_)
    refine W.eq (g2 := F0 m (pc + 3) ls [.ref T.heap.size]) rfl ?_
    refine lv_dup X.1 X.2.1 hd1 rfl ?_
    intro T1 hT1 X2
    obtain ⟨U, u1, u2, u3, u4, u5, ce, u6, u7⟩ := X2.ctorThrow0 X.1 htr (own := "WindowCache") (cls := xn k) (names := xnames) (ic := xidx k) X.2.2.2.1 (by rcases (show k = 0 ∨ k = 1 by omega) with rfl | rfl <;> decide) (by decide) hat (fun x hx => by cases hx) (a := T.heap.size) (cX := cX) (kX := kC) hcX hkC (by rw [hT1]; exact e1) (Nat.le_refl _)
      (g := F0 m (pc + 4) ls [.ref T.heap.size, .ref T.heap.size]) rfl (by rw [X.2.2.1]; exact h3.1) rfl rfl (rest := []) rfl (by rw [X.2.1]; exact hd2) (by rw [X.2.1]; exact hd3) (by rw [hex]; intro x hx; cases hx) (by rw [hR1.1]; show 2 + 3 < R.frames; omega) (by rw [hR1.2]; show 2 * 0 + (1 + 0) + (13 * (2 + 1) + 41) ≤ R.locals; omega) hlk
    exact ⟨U, u1, u2, u3, u4, u5, ce, u6, u7.vm, u7.cls⟩
  obtain ⟨t, st, t1, t2, t3, t4, ce, t5, t6, t7⟩ := K T rfl X1
  have hh := same_heap t4
  have z1 : t.heap.size ≤ T.heap.size + 1 := t4.2.2.1
  have z2 : T.heap.size < t.heap.size := (Array.getElem?_eq_some_iff.mp t5).1
  have hsame := rebase_back X0 t4
  refine ⟨t, st, _, t1, t2, T.heap.size, rfl, h2.1, ⟨ce, t5, t6, t7⟩, h1.skip (by omega) hh, ⟨Nat.le_trans h2.1 (by omega), fun q q1 q2 => (hh q (Nat.lt_of_lt_of_le q1 h2.1)).trans (h2.2.1 q q1 q2)⟩, t3, locs, hsame, h2.2.2⟩
end THR
theorem r_metT {l : Launch} {DD : DT} {y : MethodName} {cc : ByteArray} {n : Nat} {ret : Option FieldType} {rm : Room} {As : List TV} {σ : Hp} {k : Nat} {σ' : Hp} (hy : plainName y.cls = true) (hn : (As.map tw_).sum ≤ n)
    (body : ∀ (p : Program) (e : Env) (s : State) (m : MethodId) (args : Array Value) (below : List Frame) (meth : Method) (c : Code), CX p s m args c cc n (dm σ) DD y.cls → meth.sig.returnType = ret → meth.locks = false → c.exceptionTable.toList = [] →
      GG p l e rm s m args below meth c n (dm σ) DD (QT below (PostT DD σ k σ' rm.cells rm.slots) args s) 0 0 σ 0 (tv_args 0 As) []) : TH l DD y cc n ret rm As σ k σ' := by
  refine MetFree.of_bodyS (code := cc) (maxLocals := n) (ret := ret) hy ?_ ?_
  · intro args s m h hn
    obtain ⟨meth, c, h1, h2, h3, h4, h5, h6, -, -⟩ := Cond.code_spec hn (atoms_spec (ws := wsM y cc n ret) h _ List.mem_cons_self)
    exact ⟨meth, c, h1, h2, h3, h4, h5, h6⟩
  · intro p e s m args below meth c s₁ B hml hv _
    obtain ⟨rfl, hw, hK⟩ := hv
    have hts := atoms_spec (ws := wsM y cc n ret) B.pre
    have hown : s.vm.findClass y.cls = some m.cls := findClass_of_methodNamed B.named
    have X : CX p s m (As.map tv).toArray c cc n (dm σ) DD y.cls := ⟨B.exec, B.bytes, hml, hown, TW_of hts, hK, fun q h => Or.inr (by rw [← hw.1]; exact h)⟩
    have hl := lv_entry (As.map tv) (n := n) (by rw [tv_sl]; exact hn)
    obtain ⟨meth', c', g1, g2, -, -, -, -, g7, -⟩ := Cond.code_spec B.named (hts _ List.mem_cons_self)
    have X0 := Stand.of_body B
    cases X0.method.symm.trans g1
    cases X0.code.symm.trans g2
    have hex : c.exceptionTable.toList = [] := by
      have h0 : c.exceptionTable.size = 0 := by simpa [Array.isEmpty] using g7
      exact List.eq_nil_of_length_eq_zero (by simpa using h0)
    have hh0 : s₁.heap = s.heap := by rw [B.state]; rfl
    rw [tv_args_eq] at hl
    obtain ⟨t, a1, o, b1, b2, b3⟩ := body p e s m _ below meth c X B.returns B.notSynchronized hex s.heap [] _ hw va_S.rf hl s₁ hh0 X0
    refine ⟨t, o, ?_, b1, b2, b3⟩
    rw [lg_entry_eq]
    exact a1
end
section
/-! CATCHES: the search through a method's table, each row naming a class by a link that may not be resolved yet -/
theorem go_link {Q : Handler → _root_.Jvm.Pre} {E : CtlPost} {e : Env} {d : Bool} {acts : List Action} {s : State} {f : JFrame} {a : Addr} {x : ExceptionTableEntry} {t : List ExceptionTableEntry} {c : ClassId} {cell : Cell} (hx : covers x f.pc = true) (h0 : x.catchType ≠ 0)
    (hl : s.vm.ClassLinks e.platform f.method.cls x.catchType c) (hcell : s.heap[a]? = some cell) (hobj : ∀ k, cell.vm ≠ .statics k) (hk : ∃ k, s.vm.classes[cell.cls]? = some k) (hc : ∃ k, s.vm.classes[c]? = some k) :
    wp (findHandler.go f a (x :: t)) Q E e d acts s ↔ if s.vm.assignable cell.cls c = true then Q (.found x.handlerPc) d acts (s.setVm (s.vm.noted f.method.cls x.catchType (.cls c))) else wp (findHandler.go f a t) Q E e d acts (s.setVm (s.vm.noted f.method.cls x.catchType (.cls c))) := by
  obtain ⟨ha, ht⟩ := (resolveClass_links e.toSetting hl).op (op := VmOp.resolveClass f.method.cls x.catchType) rfl
  have al : s.vm.Alike (s.vm.noted f.method.cls x.catchType (.cls c)) := (Vm.Alike.refl s.vm).noted _ _ _
  obtain ⟨k1, hk1⟩ := hk
  obtain ⟨k2, hk2⟩ := hc
  obtain ⟨k1', hk1', -⟩ := al.2.2 _ _ hk1
  obtain ⟨k2', hk2', -⟩ := al.2.2 _ _ hk2
  have hx' : (decide (x.startPc ≤ f.pc) && decide (f.pc < x.endPc)) = true := hx
  cases hfit : s.vm.assignable cell.cls c with
  | true =>
    have hfit' : (s.vm.noted f.method.cls x.catchType (.cls c)).assignable cell.cls c = true := by rw [al.assignable]; exact hfit
    rw [if_pos rfl]
    simp only [Bool.and_eq_true, decide_eq_true_eq] at hx'
    simp [findHandler.go, hx', h0, ha, ht, hcell, hobj, hk1', hk2', hfit', VmOp.dirties, VmOp.acts]
  | false =>
    have hfit' : (s.vm.noted f.method.cls x.catchType (.cls c)).assignable cell.cls c = false := by rw [al.assignable]; exact hfit
    rw [if_neg (by decide)]
    simp only [Bool.and_eq_true, decide_eq_true_eq] at hx'
    simp [findHandler.go, hx', h0, ha, ht, hcell, hobj, hk1', hk2', hfit', VmOp.dirties, VmOp.acts]
/-- what a row of the table says of the thrown class: a link to a class, which takes it or doesn't -/
def RW (pl : Platform) (s : State) (d : ClassId) (pc : Nat) (thrown : ClassId) (y : ExceptionTableEntry) (b : Bool) : Prop := covers y pc = true ∧ y.catchType ≠ 0 ∧ ∃ c, s.vm.ClassLinks pl d y.catchType c ∧ s.vm.assignable thrown c = b
theorem go_all {e : Env} {s : State} {f : JFrame} {a : Addr} {cell : Cell} (hobj : ∀ k, cell.vm ≠ .statics k) (hk0 : ∃ k, s.vm.classes[cell.cls]? = some k) {x : ExceptionTableEntry} {rest : List ExceptionTableEntry} (hx : RW e.platform s f.method.cls f.pc cell.cls x true) :
    ∀ (pre : List ExceptionTableEntry) (S : State), s.WarmedH S.vm → S.heap[a]? = some cell → (∀ y ∈ pre, RW e.platform s f.method.cls f.pc cell.cls y false) → ∃ vm', s.WarmedH vm' ∧ ∀ (Q : Handler → _root_.Jvm.Pre) (E : CtlPost) (d : Bool) (acts : List Action), wp (findHandler.go f a (pre ++ x :: rest)) Q E e d acts S ↔ Q (.found x.handlerPc) d acts (S.setVm vm') := by
  obtain ⟨k0, hk0⟩ := hk0
  have one : ∀ (y : ExceptionTableEntry) (b : Bool) (t : List ExceptionTableEntry) (S : State), RW e.platform s f.method.cls f.pc cell.cls y b → s.WarmedH S.vm → S.heap[a]? = some cell → ∃ vm', s.WarmedH vm' ∧ ∀ (Q : Handler → _root_.Jvm.Pre) (E : CtlPost) (d : Bool) (acts : List Action), wp (findHandler.go f a (y :: t)) Q E e d acts S ↔ if b = true then Q (.found y.handlerPc) d acts (S.setVm vm') else wp (findHandler.go f a t) Q E e d acts (S.setVm vm') := by
    intro y b t S hy hW hcell
    obtain ⟨h1, h2, c, hl, hb⟩ := hy
    obtain ⟨dk, _, _, kt, hd, _, _, _, _, hkt, _, hopen⟩ := hl.here
    obtain ⟨kt', hkt', -⟩ := hW.alike.2.2 _ _ hkt
    obtain ⟨k0', hk0', -⟩ := hW.alike.2.2 _ _ hk0
    refine ⟨S.vm.noted f.method.cls y.catchType (.cls c), hW.noted hd hopen (State.rightAt_cls hl), fun Q E d acts => ?_⟩
    rw [go_link h1 h2 (hW.classLinks hl) hcell hobj ⟨k0', hk0'⟩ ⟨kt', hkt'⟩, hW.alike.assignable, hb]
  intro pre
  induction pre with
  | nil =>
    intro S hW hcell _
    obtain ⟨vm', h1, h2⟩ := one x true rest S hx hW hcell
    exact ⟨vm', h1, fun Q E d acts => by rw [List.nil_append, h2 Q E d acts, if_pos rfl]⟩
  | cons y ys ih =>
    intro S hW hcell hp
    obtain ⟨vm1, h1, h2⟩ := one y false (ys ++ x :: rest) S (hp y List.mem_cons_self) hW hcell
    obtain ⟨vm2, h3, h4⟩ := ih (S.setVm vm1) h1 hcell (fun z hz => hp z (List.mem_cons_of_mem _ hz))
    exact ⟨vm2, h3, fun Q E d acts => by rw [List.cons_append, h2 Q E d acts, if_neg (by decide), h4 Q E d acts]; rfl⟩
section CA
variable {p : Program} {l : Launch} {e : Env} {R : Room} {s : State} {m : MethodId} {args : Array Value} {below : List Frame} {meth : Method} {c : Code} {T : State} {locs : List Loc} {kc ks : Nat}
theorem caught_at (X : Stand p l e R s m args below meth c T locs kc ks) {g : JFrame} (hg : g.method = m) {a : Nat} {cell : Cell} (hcell : T.heap[a]? = some cell) (hvm : cell.vm = .none) (hk0 : ∃ k, s.vm.classes[cell.cls]? = some k) {pre : List ExceptionTableEntry} {x : ExceptionTableEntry} {rest : List ExceptionTableEntry}
    (hsplit : c.exceptionTable.toList = pre ++ x :: rest) (hpre : ∀ y ∈ pre, RW e.platform s m.cls g.pc cell.cls y false) (hx : RW e.platform s m.cls g.pc cell.cls x true) :
    ∃ vm', Stand p l e R s m args below meth c (T.setVm vm') locs kc ks ∧ ∀ target, Steps p.tables e below ((T.setVm vm').setTop { g with pc := x.handlerPc, stack := [.ref a] }) target → Steps p.tables e below ((T.setTop g).pushFrame (.throwing a)) target := by
  subst hg
  have hobj : ∀ k, cell.vm ≠ .statics k := fun k h => by rw [hvm] at h; cases h
  have uv : ((T.setTop g).pushFrame (.throwing a)).vm = T.vm := Stand.throwing_vm T g a
  have uh : ((T.setTop g).pushFrame (.throwing a)).heap = T.heap := Stand.throwing_heap T g a
  obtain ⟨vm', hW, hq⟩ := go_all (e := e) (f := g) (a := a) hobj hk0 (rest := rest) hx pre ((T.setTop g).pushFrame (.throwing a)) (by rw [uv]; exact X.warmed) (by rw [uh]; exact hcell) hpre
  have X' := X.noted hW
  refine ⟨vm', X', fun target hrest => ?_⟩
  have hfind : ∀ (Q : Handler → _root_.Jvm.Pre) (E : CtlPost) (d : Bool) (acts : List Action), wp (findHandler g a) Q E e d acts ((T.setTop g).pushFrame (.throwing a)) ↔ Q (.found x.handlerPc) d acts (((T.setTop g).pushFrame (.throwing a)).setVm vm') := fun Q E d acts => by
    rw [W.findHandler_eq (meth := meth) (code := c) (by rw [uv]; exact X.method') X.code, hsplit]
    exact hq Q E d acts
  obtain ⟨hgo, hw⟩ := X.here.throwing a
  refine Steps.head hgo hw ?_
  have key : ∀ (u : State) (r : List Frame), (∀ (Q : Handler → _root_.Jvm.Pre) (E : CtlPost) (d : Bool) (acts : List Action), wp (findHandler g a) Q E e d acts u ↔ Q (.found x.handlerPc) d acts (u.setVm vm')) → (stepThrowing e u a (.java g :: r)).1 = (u.setVm vm').setFrames (.java { g with pc := x.handlerPc, stack := [.ref a] } :: r) := by
    intro u r hu
    simp only [stepThrowing, searchFrame, vmDo]
    generalize hr : Sem.go _ e false [] u = res
    obtain ⟨as, rfl, ha⟩ := Sem.eq_ok_of hr (a := Handler.found x.handlerPc) (s' := u.setVm vm') (acts' := []) (by simp [hu _ _ _ _])
    rfl
  rw [stepThread_throwing (frames_entered X.here.top _), key _ _ hfind]
  obtain ⟨g₀, hg⟩ := Option.isSome_iff_exists.mp X.here.top
  obtain ⟨r, hr⟩ := State.topJava?_eq_some.mp hg
  have hr' : (T.setVm vm').frames = .java g₀ :: r := hr
  have e1 : ∀ (F G : List Frame), ((T.setFrames F).setVm vm').setFrames G = (T.setVm vm').setFrames G := fun F G => by
    show ((T.setVm vm').setFrames F).setFrames G = _
    rw [State.setFrames_setFrames]
  rw [State.setTop_of_frames _ hr'] at hrest
  rw [hr, List.tail_cons, State.pushFrame, State.setTop_of_frames _ hr, State.setFrames_setFrames, e1]
  exact hrest
/-- a call of which the contract says that it throws: the exception lies over the caller's frame -/
theorem callT_back {DD : DT} {y : MethodName} {bytes : ByteArray} {maxL : Nat} {ret : Option FieldType} {rm : Room} {As : List TV} {σ : Hp} {k : Nat} {σ' : Hp} (hM : TH l DD y bytes maxL ret rm As σ k σ') (X : Stand p l e R s m args below meth c T locs kc ks) {g : JFrame} (hg : g.method = m) (hsize : g.locals.size = c.maxLocals) {ig : Instr} {len : Nat} (hdg : decode c.code g.pc = .ok (ig, len))
    (hR : rm.frames + 1 ≤ R.frames ∧ 8 + (maxL + 11) + rm.locals ≤ R.locals) (hst : 2 * g.monitorRoom + (g.stack.map fun v => v.category).sum ≤ 8) (hf : kc + rm.cells ≤ R.cells ∧ ks + rm.slots ≤ R.slots) {mk : MethodId} (hn : T.methodNamed? y = some mk) (hts : ∀ w ∈ wsM y bytes maxL ret, w.before (As.map tv).toArray T = true) (hini : (Cond.initialized y.cls).before (As.map tv).toArray T = true) (hP : Pre DD As σ (As.map tv).toArray T) :
    ∃ (x : Nat) (T' : State) (L : List Loc), Stand p l e R s m args below meth c T' (locs ++ L) (kc + rm.cells) (ks + rm.slots) ∧ (∀ q ∈ L, dm σ q.base) ∧ T.heap.size ≤ x ∧ (∃ ce : Cell, T'.heap[x]? = some ce ∧ ce.vm = .none ∧ T.vm.findClass (xn k) = some ce.cls) ∧ wld (dm σ) DD σ' T'.heap ∧ (T.heap.size ≤ T'.heap.size ∧ ∀ q : Nat, q < T.heap.size → ¬ dm σ q → T'.heap[q]? = T.heap[q]?) ∧
      Steps p.tables e below (doInvoke e (T.setTop g) [] mk (As.map tv).toArray).1 ((T'.setTop g).pushFrame (.throwing x)) := by
  obtain ⟨methY, cY, hmY, hcY, -, hlY, -, -, -, -⟩ := Cond.code_spec hn (hts _ List.mem_cons_self)
  obtain ⟨kY, hkY, -⟩ := className_of_methodNamed hn
  have hinitY : kY.init = .initialized := Cond.initialized_spec (findClass_of_methodNamed hn) hkY hini
  have h : At T g.method c below := by rw [hg]; exact X.here
  have happ : (headSpec (wsM y bytes maxL ret) rm).appliesLoose y e.platform (T.calling g mk (As.map tv).toArray) = true :=
    Spec.appliesLoose_calling (g := g) h hdg hn hkY hinitY (X.room_calling (g := g) (R' := rm) hsize hmY hcY hR.1 (by rw [hlY]; omega) hf.1 hf.2) (atoms_intro hts)
  obtain ⟨mid, hmid⟩ := h.above
  have hfr : (T.setTop g).frames = (.java g :: mid) ++ below := by rw [State.frames_setTop' g h.top, hmid]; rfl
  obtain ⟨o, s₂, hsteps, -, hend, x, rfl, hx, ⟨ce, c1, c2, c3⟩, hw, hF, hW2, L, hsame, hL⟩ := Steps.callFree hM p X.admits X.cas X.clock (acts := []) hfr happ (Pre_blind _ _ _ _ hP) trivial
  rw [State.frames_setTop' g h.top, X.tail] at hend
  obtain ⟨T', X', hWT, hsT, rfl⟩ := X.outOfThrown hg (mk := mk) (a := (As.map tv).toArray) hend hW2 hsame
  have uh : ((T'.setTop g).pushFrame (.throwing x)).heap = T'.heap := Stand.throwing_heap T' g x
  rw [uh] at c1 hw
  refine ⟨x, T', L, X', hL, hx, ⟨ce, c1, c2, c3⟩, hw, ⟨by have := hF.1; rw [uh] at this; exact this, fun q q1 q2 => by have := hF.2 q q1 q2; rw [uh] at this; exact this⟩, hsteps⟩
end CA
section CB
variable {p : Program} {l : Launch} {e : Env} {R : Room} {s : State} {m : MethodId} {args : Array Value} {below : List Frame} {meth : Method} {c : Code} {cc : ByteArray} {nL : Nat} {A : Nat → Prop} {DD : DT} {own : String} {Q : State → Prop} {kc ks pc : Nat} {σ : Hp} {lv : List (Nat × TV)} {st : List TV}
theorem RW_of {pl : Platform} (hpl : pl.magicAccessors = ({} : Platform).magicAccessors) (hown : s.vm.findClass own = some m.cls) {thrown : ClassId} {k j : Nat} (hk : k < 2) (hj : j < 2) (ht : s.vm.findClass (xn k) = some thrown) (hX : XC s) {y : ExceptionTableEntry} {pc : Nat} (hc : covers y pc = true) (h0 : y.catchType ≠ 0) (hl : (Cond.classLink own y.catchType (xn j)).before args s = true) : RW pl s m.cls pc thrown y (decide (k = j)) := by
  obtain ⟨c', hc', hcl⟩ := Cond.classLink_spec hown hl pl hpl
  obtain ⟨cx, hcx⟩ := hX
  obtain ⟨a1, a2⟩ := hcx k j hk hj
  obtain ⟨b1, -⟩ := hcx j j hj hj
  cases ht.symm.trans a1
  cases hc'.symm.trans b1
  exact ⟨hc, h0, _, hcl, a2⟩
set_option maxHeartbeats 1000000 in
/-- a call that throws the exception k, caught by the row x of the method's own table -/
theorem r_callT (X : CX p s m args c cc nL A DD own) {y : MethodName} {bytes : ByteArray} {maxL index n : Nat} {ret : Option FieldType} {rm : Room} (As : List TV) {σ' : Hp} {k : Nat} {r : Option Nat} {ci b : Nat} (hk : k < 2) (hr : is_O σ r ci = some b) (hci : ci < 12) (hl : Cond.methodLink own index y ∈ lw_tbl) (hin : Cond.instanceMethod y ∈ lw_tbl) (hsel : Cond.selects (kR ci) y y ∈ lw_tbl) (hM : TH l DD y bytes maxL ret rm (tR r :: As) σ k σ')
    (hcd : Cond.code y bytes maxL ret ∈ lw_tbl) (hini : Cond.initialized y.cls ∈ lw_tbl) (hdd : y.cls ≠ "java/lang/invoke/MethodHandle" ∧ y.cls ≠ "java/lang/invoke/VarHandle" ∧ (parseMethodDescriptor y.desc).map (fun d => d.parameters.length) = some n) (hn : As.length = n) (hR : rm.frames + 1 ≤ R.frames ∧ 8 + (maxL + 11) + rm.locals ≤ R.locals) (hroom : (st.map tw_).sum ≤ 8) (hf : kc + rm.cells ≤ R.cells ∧ ks + rm.slots ≤ R.slots) (hd : decode cc pc = .ok (.invokevirtual index, 3))
    {pre : List ExceptionTableEntry} {x : ExceptionTableEntry} {rest : List ExceptionTableEntry} (hsplit : c.exceptionTable.toList = pre ++ x :: rest) (hpre : ∀ z ∈ pre, covers z pc = true ∧ z.catchType ≠ 0 ∧ ∃ j, j < 2 ∧ k ≠ j ∧ Cond.classLink own z.catchType (xn j) ∈ lw_tbl) (hx : covers x pc = true) (hx0 : x.catchType ≠ 0) (hxl : Cond.classLink own x.catchType (xn k) ∈ lw_tbl)
    (kk : ∀ v : Nat, GG p l e R s m args below meth c nL A DD Q (kc + rm.cells) (ks + rm.slots) σ' x.handlerPc lv [tR (some v)]) : GG p l e R s m args below meth c nL A DD Q kc ks σ pc lv (As.reverse ++ tR r :: st) := by
  intro H locs ls h1 h2 h3 T hT X0
  subst hT
  obtain ⟨rfl, hc⟩ := is_O_spec hr
  obtain ⟨g1, g2, g3, cell, q1, q2, q3, q4⟩ := h1.2.1 b ci hc
  have tb : ∀ w ∈ lw_tbl, goodWord w = true → w.before args s = true := X.2.2.2.2.1
  obtain ⟨mk, methM, hnamed, hmethM, hstM, habM⟩ := Cond.instanceMethod_spec (tb _ hin rfl)
  obtain ⟨methM', cM, hmethM', -, -, -, -, -, -, hsigM⟩ := Cond.code_spec hnamed (tb _ hcd rfl)
  cases hmethM.symm.trans hmethM'
  obtain ⟨c2, r2, m2, w1, w2, w3, w4, kP, hkP, hkPi⟩ := Cond.selects_spec (tb _ hsel rfl)
  have hcls : s.vm.findClass (kR ci) = some cell.cls := by rw [q2]; exact (X.2.2.2.2.2.1.1.1 ci _ (kcl_at hci)).2.1
  cases hcls.symm.trans w1
  cases (State.methodFound?_of_named hnamed ⟨hdd.1, hdd.2.1⟩).symm.trans w2
  cases hnamed.symm.trans w3
  have hselP : selectMethod e.platform s.vm cell.cls mk = .method mk := by rw [Launch.admits_selectMethod X0.admits]; exact w4
  have hlen : (As.map tv).length = methM.sig.parameters.length := by
    have h2 := hdd.2.2
    rw [hsigM] at h2
    rw [List.length_map, hn]
    exact (Option.some.inj h2).symm
  obtain ⟨vm₁, X₁, hstep₁⟩ := X0.invokevirtual X.1 X.2.2.2.1 (tb _ hl rfl) hnamed hmethM hstM hkP hkPi ⟨hdd.1, hdd.2.1⟩ (a := b) (cell := cell) q1 (fun z h => by rw [q3] at h; cases h) hselP hmethM habM hkP hkPi (g := F0 m pc ls ((As.reverse ++ tR (some b) :: st).map tv)) rfl (argsL := As.map tv) (rest := st.map tv) hlen (by show (List.map tv (As.reverse ++ tR (some b) :: st)) = _; rw [List.map_append, List.map_reverse]; rfl) (by rw [X.2.1]; exact hd)
  have hW1 := X₁.warmed
  have hwd : ∀ w ∈ lw_tbl, goodWord w = true → w.before ((tR (some b) :: As).map tv).toArray (T.setVm vm₁) = true := fun w a1 a2 => word_at hW1 (good_of_word a2) (tb w a1 a2)
  obtain ⟨v, T', L, X', hL, hv, ⟨ce, c1, c2', c3⟩, hw, hF, hsteps⟩ := callT_back hM X₁ (g := F0 m pc ls (st.map tv)) rfl (by rw [X.2.2.1]; exact h3.1) (by rw [X.2.1]; exact hd) hR (by show 2 * 0 + _ ≤ 8; rw [tv_cats]; omega) hf (X₁.named hnamed) (TW_back hwd hcd) (hwd _ hini rfl) (pre_in (As := tR (some b) :: As) X h1 h2 (T.setVm vm₁) rfl hW1)
  have hpl : e.platform.magicAccessors = ({} : Platform).magicAccessors := by rw [X0.admits.platform]
  have hal : s.vm.Alike vm₁ := hW1.alike
  have c3' : s.vm.findClass (xn k) = some ce.cls := by rw [← hal.findClass]; exact c3
  have hXC : XC s := X.2.2.2.2.2.1.2.2.2.2.2.2.2.2.2
  obtain ⟨vm2, X2, hst2⟩ := caught_at X' (g := F0 m pc ls (st.map tv)) rfl c1 c2' (Vm.classAt_of_findClass c3') hsplit (fun z hz => by
      obtain ⟨a1, a2, j, a3, a4, a5⟩ := hpre z hz
      have := RW_of (m := m) hpl X.2.2.2.1 hk a3 c3' hXC a1 a2 (tb _ a5 rfl)
      rw [decide_eq_false a4] at this
      exact this) (by
      have := RW_of (m := m) hpl X.2.2.2.1 hk hk c3' hXC hx hx0 (tb _ hxl rfl)
      rw [decide_eq_true rfl] at this
      exact this)
  have hinn := h1.in (fun q h => X.2.2.2.2.2.2 q (Nat.le_trans h2.1 h))
  obtain ⟨t2, s2, b2⟩ := kk v T'.heap (locs ++ L) ls (hw.mono hinn) ⟨Nat.le_trans h2.1 hF.1, fun q a1 a2 => (hF.2 q (Nat.lt_of_lt_of_le a1 h2.1) (fun z => a2 (hinn q z))).trans (h2.2.1 q a1 a2), fun q hq => by
      rcases List.mem_append.mp hq with h | h
      · exact h2.2.2 q h
      · exact hinn _ (hL q h)⟩ h3 (T'.setVm vm2) rfl X2
  refine ⟨t2, hstep₁ _ (fun acts => ?_), b2⟩
  rw [doInvoke_state]
  exact hsteps.trans (hst2 _ s2)
end CB
end
