def y_M_nextCandidate : MethodName := ⟨"WindowCacheModel", "nextCandidate", "()I"⟩
theorem y_M_nextCandidate_ok : y_M_nextCandidate.cls ≠ "java/lang/invoke/MethodHandle" ∧ y_M_nextCandidate.cls ≠ "java/lang/invoke/VarHandle" ∧ (parseMethodDescriptor y_M_nextCandidate.desc).map (fun d => d.parameters.length) = some 0 := by decide +kernel
def rm_M_nextCandidate : Room := { frames := 0, cells := 0, slots := 0, locals := 0 }
theorem d_M_nextCandidate_0 : decode prog_13_method_24_code 0 = .ok (.iconst (-1), 1) := by decide +kernel
theorem d_M_nextCandidate_1 : decode prog_13_method_24_code 1 = .ok (.istore_n 1, 1) := by decide +kernel
theorem d_M_nextCandidate_2 : decode prog_13_method_24_code 2 = .ok (.iconst 0, 1) := by decide +kernel
theorem d_M_nextCandidate_3 : decode prog_13_method_24_code 3 = .ok (.istore_n 2, 1) := by decide +kernel
theorem d_M_nextCandidate_4 : decode prog_13_method_24_code 4 = .ok (.iload_n 2, 1) := by decide +kernel
theorem d_M_nextCandidate_5 : decode prog_13_method_24_code 5 = .ok (.aload_n 0, 1) := by decide +kernel
theorem d_M_nextCandidate_6 : decode prog_13_method_24_code 6 = .ok (.getfield 143, 3) := by decide +kernel
theorem d_M_nextCandidate_9 : decode prog_13_method_24_code 9 = .ok (.if_icmp .ge 51, 3) := by decide +kernel
theorem d_M_nextCandidate_12 : decode prog_13_method_24_code 12 = .ok (.aload_n 0, 1) := by decide +kernel
theorem d_M_nextCandidate_13 : decode prog_13_method_24_code 13 = .ok (.getfield 54, 3) := by decide +kernel
theorem d_M_nextCandidate_16 : decode prog_13_method_24_code 16 = .ok (.iload_n 2, 1) := by decide +kernel
theorem d_M_nextCandidate_17 : decode prog_13_method_24_code 17 = .ok (.baload, 1) := by decide +kernel
theorem d_M_nextCandidate_18 : decode prog_13_method_24_code 18 = .ok (.ifCond .eq 36, 3) := by decide +kernel
theorem d_M_nextCandidate_21 : decode prog_13_method_24_code 21 = .ok (.aload_n 0, 1) := by decide +kernel
theorem d_M_nextCandidate_22 : decode prog_13_method_24_code 22 = .ok (.getfield 34, 3) := by decide +kernel
theorem d_M_nextCandidate_25 : decode prog_13_method_24_code 25 = .ok (.iload_n 2, 1) := by decide +kernel
theorem d_M_nextCandidate_26 : decode prog_13_method_24_code 26 = .ok (.iaload, 1) := by decide +kernel
theorem d_M_nextCandidate_27 : decode prog_13_method_24_code 27 = .ok (.iconst 2, 1) := by decide +kernel
theorem d_M_nextCandidate_28 : decode prog_13_method_24_code 28 = .ok (.if_icmp .ne 26, 3) := by decide +kernel
theorem d_M_nextCandidate_31 : decode prog_13_method_24_code 31 = .ok (.iload_n 1, 1) := by decide +kernel
theorem d_M_nextCandidate_32 : decode prog_13_method_24_code 32 = .ok (.iconst (-1), 1) := by decide +kernel
theorem d_M_nextCandidate_33 : decode prog_13_method_24_code 33 = .ok (.if_icmp .eq 19, 3) := by decide +kernel
theorem d_M_nextCandidate_36 : decode prog_13_method_24_code 36 = .ok (.aload_n 0, 1) := by decide +kernel
theorem d_M_nextCandidate_37 : decode prog_13_method_24_code 37 = .ok (.getfield 47, 3) := by decide +kernel
theorem d_M_nextCandidate_40 : decode prog_13_method_24_code 40 = .ok (.iload_n 2, 1) := by decide +kernel
theorem d_M_nextCandidate_41 : decode prog_13_method_24_code 41 = .ok (.laload, 1) := by decide +kernel
theorem d_M_nextCandidate_42 : decode prog_13_method_24_code 42 = .ok (.aload_n 0, 1) := by decide +kernel
theorem d_M_nextCandidate_43 : decode prog_13_method_24_code 43 = .ok (.getfield 47, 3) := by decide +kernel
theorem d_M_nextCandidate_46 : decode prog_13_method_24_code 46 = .ok (.iload_n 1, 1) := by decide +kernel
theorem d_M_nextCandidate_47 : decode prog_13_method_24_code 47 = .ok (.laload, 1) := by decide +kernel
theorem d_M_nextCandidate_48 : decode prog_13_method_24_code 48 = .ok (.lcmp, 1) := by decide +kernel
theorem d_M_nextCandidate_49 : decode prog_13_method_24_code 49 = .ok (.ifCond .ge 5, 3) := by decide +kernel
theorem d_M_nextCandidate_52 : decode prog_13_method_24_code 52 = .ok (.iload_n 2, 1) := by decide +kernel
theorem d_M_nextCandidate_53 : decode prog_13_method_24_code 53 = .ok (.istore_n 1, 1) := by decide +kernel
theorem d_M_nextCandidate_54 : decode prog_13_method_24_code 54 = .ok (.iinc 2 1, 3) := by decide +kernel
theorem d_M_nextCandidate_57 : decode prog_13_method_24_code 57 = .ok (.goto (-53), 3) := by decide +kernel
theorem d_M_nextCandidate_60 : decode prog_13_method_24_code 60 = .ok (.iload_n 1, 1) := by decide +kernel
theorem d_M_nextCandidate_61 : decode prog_13_method_24_code 61 = .ok (.ireturn, 1) := by decide +kernel
def y_M_often0 : MethodName := ⟨"WindowCacheModel", "often0", "(I)I"⟩
theorem y_M_often0_ok : y_M_often0.cls ≠ "java/lang/invoke/MethodHandle" ∧ y_M_often0.cls ≠ "java/lang/invoke/VarHandle" ∧ (parseMethodDescriptor y_M_often0.desc).map (fun d => d.parameters.length) = some 1 := by decide +kernel
def rm_M_often0 : Room := { frames := 1, cells := 0, slots := 0, locals := 22 }
theorem d_M_often0_0 : decode prog_13_method_9_code 0 = .ok (.bipush 15, 2) := by decide +kernel
theorem d_M_often0_2 : decode prog_13_method_9_code 2 = .ok (.istore_n 2, 1) := by decide +kernel
theorem d_M_often0_3 : decode prog_13_method_9_code 3 = .ok (.iconst 0, 1) := by decide +kernel
theorem d_M_often0_4 : decode prog_13_method_9_code 4 = .ok (.istore_n 3, 1) := by decide +kernel
theorem d_M_often0_5 : decode prog_13_method_9_code 5 = .ok (.iload_n 3, 1) := by decide +kernel
theorem d_M_often0_6 : decode prog_13_method_9_code 6 = .ok (.iconst 4, 1) := by decide +kernel
theorem d_M_often0_7 : decode prog_13_method_9_code 7 = .ok (.if_icmp .ge 40, 3) := by decide +kernel
theorem d_M_often0_10 : decode prog_13_method_9_code 10 = .ok (.aload_n 0, 1) := by decide +kernel
theorem d_M_often0_11 : decode prog_13_method_9_code 11 = .ok (.getfield 70, 3) := by decide +kernel
theorem d_M_often0_14 : decode prog_13_method_9_code 14 = .ok (.aload_n 0, 1) := by decide +kernel
theorem d_M_often0_15 : decode prog_13_method_9_code 15 = .ok (.iload_n 3, 1) := by decide +kernel
theorem d_M_often0_16 : decode prog_13_method_9_code 16 = .ok (.iload_n 1, 1) := by decide +kernel
theorem d_M_often0_17 : decode prog_13_method_9_code 17 = .ok (.invokevirtual 136, 3) := by decide +kernel
theorem d_M_often0_20 : decode prog_13_method_9_code 20 = .ok (.iaload, 1) := by decide +kernel
theorem d_M_often0_21 : decode prog_13_method_9_code 21 = .ok (.iload_n 2, 1) := by decide +kernel
theorem d_M_often0_22 : decode prog_13_method_9_code 22 = .ok (.if_icmp .ge 17, 3) := by decide +kernel
theorem d_M_often0_25 : decode prog_13_method_9_code 25 = .ok (.aload_n 0, 1) := by decide +kernel
theorem d_M_often0_26 : decode prog_13_method_9_code 26 = .ok (.getfield 70, 3) := by decide +kernel
theorem d_M_often0_29 : decode prog_13_method_9_code 29 = .ok (.aload_n 0, 1) := by decide +kernel
theorem d_M_often0_30 : decode prog_13_method_9_code 30 = .ok (.iload_n 3, 1) := by decide +kernel
theorem d_M_often0_31 : decode prog_13_method_9_code 31 = .ok (.iload_n 1, 1) := by decide +kernel
theorem d_M_often0_32 : decode prog_13_method_9_code 32 = .ok (.invokevirtual 136, 3) := by decide +kernel
theorem d_M_often0_35 : decode prog_13_method_9_code 35 = .ok (.iaload, 1) := by decide +kernel
theorem d_M_often0_36 : decode prog_13_method_9_code 36 = .ok (.goto 4, 3) := by decide +kernel
theorem d_M_often0_39 : decode prog_13_method_9_code 39 = .ok (.iload_n 2, 1) := by decide +kernel
theorem d_M_often0_40 : decode prog_13_method_9_code 40 = .ok (.istore_n 2, 1) := by decide +kernel
theorem d_M_often0_41 : decode prog_13_method_9_code 41 = .ok (.iinc 3 1, 3) := by decide +kernel
theorem d_M_often0_44 : decode prog_13_method_9_code 44 = .ok (.goto (-39), 3) := by decide +kernel
theorem d_M_often0_47 : decode prog_13_method_9_code 47 = .ok (.iload_n 2, 1) := by decide +kernel
theorem d_M_often0_48 : decode prog_13_method_9_code 48 = .ok (.ireturn, 1) := by decide +kernel
def y_M_drawn : MethodName := ⟨"WindowCacheModel", "drawn", "()Z"⟩
theorem y_M_drawn_ok : y_M_drawn.cls ≠ "java/lang/invoke/MethodHandle" ∧ y_M_drawn.cls ≠ "java/lang/invoke/VarHandle" ∧ (parseMethodDescriptor y_M_drawn.desc).map (fun d => d.parameters.length) = some 0 := by decide +kernel
def rm_M_drawn : Room := { frames := 0, cells := 0, slots := 0, locals := 0 }
theorem d_M_drawn_0 : decode prog_13_method_25_code 0 = .ok (.aload_n 0, 1) := by decide +kernel
theorem d_M_drawn_1 : decode prog_13_method_25_code 1 = .ok (.dup, 1) := by decide +kernel
theorem d_M_drawn_2 : decode prog_13_method_25_code 2 = .ok (.getfield 76, 3) := by decide +kernel
theorem d_M_drawn_5 : decode prog_13_method_25_code 5 = .ok (.aload_n 0, 1) := by decide +kernel
theorem d_M_drawn_6 : decode prog_13_method_25_code 6 = .ok (.getfield 76, 3) := by decide +kernel
theorem d_M_drawn_9 : decode prog_13_method_25_code 9 = .ok (.bipush 13, 2) := by decide +kernel
theorem d_M_drawn_11 : decode prog_13_method_25_code 11 = .ok (.ishl, 1) := by decide +kernel
theorem d_M_drawn_12 : decode prog_13_method_25_code 12 = .ok (.ixor, 1) := by decide +kernel
theorem d_M_drawn_13 : decode prog_13_method_25_code 13 = .ok (.putfield 76, 3) := by decide +kernel
theorem d_M_drawn_16 : decode prog_13_method_25_code 16 = .ok (.aload_n 0, 1) := by decide +kernel
theorem d_M_drawn_17 : decode prog_13_method_25_code 17 = .ok (.dup, 1) := by decide +kernel
theorem d_M_drawn_18 : decode prog_13_method_25_code 18 = .ok (.getfield 76, 3) := by decide +kernel
theorem d_M_drawn_21 : decode prog_13_method_25_code 21 = .ok (.aload_n 0, 1) := by decide +kernel
theorem d_M_drawn_22 : decode prog_13_method_25_code 22 = .ok (.getfield 76, 3) := by decide +kernel
theorem d_M_drawn_25 : decode prog_13_method_25_code 25 = .ok (.bipush 17, 2) := by decide +kernel
theorem d_M_drawn_27 : decode prog_13_method_25_code 27 = .ok (.iushr, 1) := by decide +kernel
theorem d_M_drawn_28 : decode prog_13_method_25_code 28 = .ok (.ixor, 1) := by decide +kernel
theorem d_M_drawn_29 : decode prog_13_method_25_code 29 = .ok (.putfield 76, 3) := by decide +kernel
theorem d_M_drawn_32 : decode prog_13_method_25_code 32 = .ok (.aload_n 0, 1) := by decide +kernel
theorem d_M_drawn_33 : decode prog_13_method_25_code 33 = .ok (.dup, 1) := by decide +kernel
theorem d_M_drawn_34 : decode prog_13_method_25_code 34 = .ok (.getfield 76, 3) := by decide +kernel
theorem d_M_drawn_37 : decode prog_13_method_25_code 37 = .ok (.aload_n 0, 1) := by decide +kernel
theorem d_M_drawn_38 : decode prog_13_method_25_code 38 = .ok (.getfield 76, 3) := by decide +kernel
theorem d_M_drawn_41 : decode prog_13_method_25_code 41 = .ok (.iconst 5, 1) := by decide +kernel
theorem d_M_drawn_42 : decode prog_13_method_25_code 42 = .ok (.ishl, 1) := by decide +kernel
theorem d_M_drawn_43 : decode prog_13_method_25_code 43 = .ok (.ixor, 1) := by decide +kernel
theorem d_M_drawn_44 : decode prog_13_method_25_code 44 = .ok (.putfield 76, 3) := by decide +kernel
theorem d_M_drawn_47 : decode prog_13_method_25_code 47 = .ok (.aload_n 0, 1) := by decide +kernel
theorem d_M_drawn_48 : decode prog_13_method_25_code 48 = .ok (.getfield 76, 3) := by decide +kernel
theorem d_M_drawn_51 : decode prog_13_method_25_code 51 = .ok (.sipush 128, 3) := by decide +kernel
theorem d_M_drawn_54 : decode prog_13_method_25_code 54 = .ok (.irem, 1) := by decide +kernel
theorem d_M_drawn_55 : decode prog_13_method_25_code 55 = .ok (.ifCond .ne 7, 3) := by decide +kernel
theorem d_M_drawn_58 : decode prog_13_method_25_code 58 = .ok (.iconst 1, 1) := by decide +kernel
theorem d_M_drawn_59 : decode prog_13_method_25_code 59 = .ok (.goto 4, 3) := by decide +kernel
theorem d_M_drawn_62 : decode prog_13_method_25_code 62 = .ok (.iconst 0, 1) := by decide +kernel
theorem d_M_drawn_63 : decode prog_13_method_25_code 63 = .ok (.ireturn, 1) := by decide +kernel
def y_M_evict : MethodName := ⟨"WindowCacheModel", "evict", "(I)V"⟩
theorem y_M_evict_ok : y_M_evict.cls ≠ "java/lang/invoke/MethodHandle" ∧ y_M_evict.cls ≠ "java/lang/invoke/VarHandle" ∧ (parseMethodDescriptor y_M_evict.desc).map (fun d => d.parameters.length) = some 1 := by decide +kernel
def rm_M_evict : Room := { frames := 2, cells := 0, slots := 0, locals := 44 }
theorem d_M_evict_0 : decode prog_13_method_23_code 0 = .ok (.aload_n 0, 1) := by decide +kernel
theorem d_M_evict_1 : decode prog_13_method_23_code 1 = .ok (.dup, 1) := by decide +kernel
theorem d_M_evict_2 : decode prog_13_method_23_code 2 = .ok (.getfield 185, 3) := by decide +kernel
theorem d_M_evict_5 : decode prog_13_method_23_code 5 = .ok (.iconst 1, 1) := by decide +kernel
theorem d_M_evict_6 : decode prog_13_method_23_code 6 = .ok (.iadd, 1) := by decide +kernel
theorem d_M_evict_7 : decode prog_13_method_23_code 7 = .ok (.putfield 185, 3) := by decide +kernel
theorem d_M_evict_10 : decode prog_13_method_23_code 10 = .ok (.aload_n 0, 1) := by decide +kernel
theorem d_M_evict_11 : decode prog_13_method_23_code 11 = .ok (.dup, 1) := by decide +kernel
theorem d_M_evict_12 : decode prog_13_method_23_code 12 = .ok (.getfield 188, 3) := by decide +kernel
theorem d_M_evict_15 : decode prog_13_method_23_code 15 = .ok (.aload_n 0, 1) := by decide +kernel
theorem d_M_evict_16 : decode prog_13_method_23_code 16 = .ok (.getfield 28, 3) := by decide +kernel
theorem d_M_evict_19 : decode prog_13_method_23_code 19 = .ok (.iload_n 1, 1) := by decide +kernel
theorem d_M_evict_20 : decode prog_13_method_23_code 20 = .ok (.iaload, 1) := by decide +kernel
theorem d_M_evict_21 : decode prog_13_method_23_code 21 = .ok (.iadd, 1) := by decide +kernel
theorem d_M_evict_22 : decode prog_13_method_23_code 22 = .ok (.putfield 188, 3) := by decide +kernel
theorem d_M_evict_25 : decode prog_13_method_23_code 25 = .ok (.aload_n 0, 1) := by decide +kernel
theorem d_M_evict_26 : decode prog_13_method_23_code 26 = .ok (.getfield 34, 3) := by decide +kernel
theorem d_M_evict_29 : decode prog_13_method_23_code 29 = .ok (.iload_n 1, 1) := by decide +kernel
theorem d_M_evict_30 : decode prog_13_method_23_code 30 = .ok (.iconst 0, 1) := by decide +kernel
theorem d_M_evict_31 : decode prog_13_method_23_code 31 = .ok (.iastore, 1) := by decide +kernel
theorem d_M_evict_32 : decode prog_13_method_23_code 32 = .ok (.aload_n 0, 1) := by decide +kernel
theorem d_M_evict_33 : decode prog_13_method_23_code 33 = .ok (.iload_n 1, 1) := by decide +kernel
theorem d_M_evict_34 : decode prog_13_method_23_code 34 = .ok (.iconst 3, 1) := by decide +kernel
theorem d_M_evict_35 : decode prog_13_method_23_code 35 = .ok (.invokevirtual 182, 3) := by decide +kernel
theorem d_M_evict_38 : decode prog_13_method_23_code 38 = .ok (.return_, 1) := by decide +kernel
def y_M_shrink : MethodName := ⟨"WindowCacheModel", "shrink", "()V"⟩
theorem y_M_shrink_ok : y_M_shrink.cls ≠ "java/lang/invoke/MethodHandle" ∧ y_M_shrink.cls ≠ "java/lang/invoke/VarHandle" ∧ (parseMethodDescriptor y_M_shrink.desc).map (fun d => d.parameters.length) = some 0 := by decide +kernel
def rm_M_shrink : Room := { frames := 3, cells := 0, slots := 0, locals := 65 }
theorem d_M_shrink_0 : decode prog_13_method_26_code 0 = .ok (.iconst 0, 1) := by decide +kernel
theorem d_M_shrink_1 : decode prog_13_method_26_code 1 = .ok (.istore_n 1, 1) := by decide +kernel
theorem d_M_shrink_2 : decode prog_13_method_26_code 2 = .ok (.iload_n 1, 1) := by decide +kernel
theorem d_M_shrink_3 : decode prog_13_method_26_code 3 = .ok (.aload_n 0, 1) := by decide +kernel
theorem d_M_shrink_4 : decode prog_13_method_26_code 4 = .ok (.getfield 143, 3) := by decide +kernel
theorem d_M_shrink_7 : decode prog_13_method_26_code 7 = .ok (.if_icmp .ge 16, 3) := by decide +kernel
theorem d_M_shrink_10 : decode prog_13_method_26_code 10 = .ok (.aload_n 0, 1) := by decide +kernel
theorem d_M_shrink_11 : decode prog_13_method_26_code 11 = .ok (.getfield 54, 3) := by decide +kernel
theorem d_M_shrink_14 : decode prog_13_method_26_code 14 = .ok (.iload_n 1, 1) := by decide +kernel
theorem d_M_shrink_15 : decode prog_13_method_26_code 15 = .ok (.iconst 0, 1) := by decide +kernel
theorem d_M_shrink_16 : decode prog_13_method_26_code 16 = .ok (.bastore, 1) := by decide +kernel
theorem d_M_shrink_17 : decode prog_13_method_26_code 17 = .ok (.iinc 1 1, 3) := by decide +kernel
theorem d_M_shrink_20 : decode prog_13_method_26_code 20 = .ok (.goto (-18), 3) := by decide +kernel
theorem d_M_shrink_23 : decode prog_13_method_26_code 23 = .ok (.aload_n 0, 1) := by decide +kernel
theorem d_M_shrink_24 : decode prog_13_method_26_code 24 = .ok (.iconst 1, 1) := by decide +kernel
theorem d_M_shrink_25 : decode prog_13_method_26_code 25 = .ok (.invokevirtual 146, 3) := by decide +kernel
theorem d_M_shrink_28 : decode prog_13_method_26_code 28 = .ok (.aload_n 0, 1) := by decide +kernel
theorem d_M_shrink_29 : decode prog_13_method_26_code 29 = .ok (.getfield 105, 3) := by decide +kernel
theorem d_M_shrink_32 : decode prog_13_method_26_code 32 = .ok (.if_icmp .le 25, 3) := by decide +kernel
theorem d_M_shrink_35 : decode prog_13_method_26_code 35 = .ok (.aload_n 0, 1) := by decide +kernel
theorem d_M_shrink_36 : decode prog_13_method_26_code 36 = .ok (.iconst 1, 1) := by decide +kernel
theorem d_M_shrink_37 : decode prog_13_method_26_code 37 = .ok (.invokevirtual 153, 3) := by decide +kernel
theorem d_M_shrink_40 : decode prog_13_method_26_code 40 = .ok (.istore_n 1, 1) := by decide +kernel
theorem d_M_shrink_41 : decode prog_13_method_26_code 41 = .ok (.aload_n 0, 1) := by decide +kernel
theorem d_M_shrink_42 : decode prog_13_method_26_code 42 = .ok (.iload_n 1, 1) := by decide +kernel
theorem d_M_shrink_43 : decode prog_13_method_26_code 43 = .ok (.iconst 2, 1) := by decide +kernel
theorem d_M_shrink_44 : decode prog_13_method_26_code 44 = .ok (.invokevirtual 156, 3) := by decide +kernel
theorem d_M_shrink_47 : decode prog_13_method_26_code 47 = .ok (.aload_n 0, 1) := by decide +kernel
theorem d_M_shrink_48 : decode prog_13_method_26_code 48 = .ok (.getfield 54, 3) := by decide +kernel
theorem d_M_shrink_51 : decode prog_13_method_26_code 51 = .ok (.iload_n 1, 1) := by decide +kernel
theorem d_M_shrink_52 : decode prog_13_method_26_code 52 = .ok (.iconst 1, 1) := by decide +kernel
theorem d_M_shrink_53 : decode prog_13_method_26_code 53 = .ok (.bastore, 1) := by decide +kernel
theorem d_M_shrink_54 : decode prog_13_method_26_code 54 = .ok (.goto (-31), 3) := by decide +kernel
theorem d_M_shrink_57 : decode prog_13_method_26_code 57 = .ok (.aload_n 0, 1) := by decide +kernel
theorem d_M_shrink_58 : decode prog_13_method_26_code 58 = .ok (.invokevirtual 191, 3) := by decide +kernel
theorem d_M_shrink_61 : decode prog_13_method_26_code 61 = .ok (.aload_n 0, 1) := by decide +kernel
theorem d_M_shrink_62 : decode prog_13_method_26_code 62 = .ok (.getfield 93, 3) := by decide +kernel
theorem d_M_shrink_65 : decode prog_13_method_26_code 65 = .ok (.if_icmp .le 130, 3) := by decide +kernel
theorem d_M_shrink_68 : decode prog_13_method_26_code 68 = .ok (.aload_n 0, 1) := by decide +kernel
theorem d_M_shrink_69 : decode prog_13_method_26_code 69 = .ok (.iconst 2, 1) := by decide +kernel
theorem d_M_shrink_70 : decode prog_13_method_26_code 70 = .ok (.invokevirtual 153, 3) := by decide +kernel
theorem d_M_shrink_73 : decode prog_13_method_26_code 73 = .ok (.istore_n 1, 1) := by decide +kernel
theorem d_M_shrink_74 : decode prog_13_method_26_code 74 = .ok (.iload_n 1, 1) := by decide +kernel
theorem d_M_shrink_75 : decode prog_13_method_26_code 75 = .ok (.iconst (-1), 1) := by decide +kernel
theorem d_M_shrink_76 : decode prog_13_method_26_code 76 = .ok (.if_icmp .ne 9, 3) := by decide +kernel
theorem d_M_shrink_79 : decode prog_13_method_26_code 79 = .ok (.aload_n 0, 1) := by decide +kernel
theorem d_M_shrink_80 : decode prog_13_method_26_code 80 = .ok (.iconst 3, 1) := by decide +kernel
theorem d_M_shrink_81 : decode prog_13_method_26_code 81 = .ok (.invokevirtual 153, 3) := by decide +kernel
theorem d_M_shrink_84 : decode prog_13_method_26_code 84 = .ok (.istore_n 1, 1) := by decide +kernel
theorem d_M_shrink_85 : decode prog_13_method_26_code 85 = .ok (.iload_n 1, 1) := by decide +kernel
theorem d_M_shrink_86 : decode prog_13_method_26_code 86 = .ok (.iconst (-1), 1) := by decide +kernel
theorem d_M_shrink_87 : decode prog_13_method_26_code 87 = .ok (.if_icmp .ne 9, 3) := by decide +kernel
theorem d_M_shrink_90 : decode prog_13_method_26_code 90 = .ok (.aload_n 0, 1) := by decide +kernel
theorem d_M_shrink_91 : decode prog_13_method_26_code 91 = .ok (.iconst 1, 1) := by decide +kernel
theorem d_M_shrink_92 : decode prog_13_method_26_code 92 = .ok (.invokevirtual 153, 3) := by decide +kernel
theorem d_M_shrink_95 : decode prog_13_method_26_code 95 = .ok (.istore_n 1, 1) := by decide +kernel
theorem d_M_shrink_96 : decode prog_13_method_26_code 96 = .ok (.aload_n 0, 1) := by decide +kernel
theorem d_M_shrink_97 : decode prog_13_method_26_code 97 = .ok (.invokevirtual 194, 3) := by decide +kernel
theorem d_M_shrink_100 : decode prog_13_method_26_code 100 = .ok (.istore_n 2, 1) := by decide +kernel
theorem d_M_shrink_101 : decode prog_13_method_26_code 101 = .ok (.iload_n 2, 1) := by decide +kernel
theorem d_M_shrink_102 : decode prog_13_method_26_code 102 = .ok (.iconst (-1), 1) := by decide +kernel
theorem d_M_shrink_103 : decode prog_13_method_26_code 103 = .ok (.if_icmp .eq 31, 3) := by decide +kernel
theorem d_M_shrink_106 : decode prog_13_method_26_code 106 = .ok (.iload_n 2, 1) := by decide +kernel
theorem d_M_shrink_107 : decode prog_13_method_26_code 107 = .ok (.iload_n 1, 1) := by decide +kernel
theorem d_M_shrink_108 : decode prog_13_method_26_code 108 = .ok (.if_icmp .eq 26, 3) := by decide +kernel
theorem d_M_shrink_111 : decode prog_13_method_26_code 111 = .ok (.aload_n 0, 1) := by decide +kernel
theorem d_M_shrink_112 : decode prog_13_method_26_code 112 = .ok (.aload_n 0, 1) := by decide +kernel
theorem d_M_shrink_113 : decode prog_13_method_26_code 113 = .ok (.getfield 22, 3) := by decide +kernel
theorem d_M_shrink_116 : decode prog_13_method_26_code 116 = .ok (.iload_n 2, 1) := by decide +kernel
theorem d_M_shrink_117 : decode prog_13_method_26_code 117 = .ok (.iaload, 1) := by decide +kernel
theorem d_M_shrink_118 : decode prog_13_method_26_code 118 = .ok (.invokevirtual 197, 3) := by decide +kernel
theorem d_M_shrink_121 : decode prog_13_method_26_code 121 = .ok (.aload_n 0, 1) := by decide +kernel
theorem d_M_shrink_122 : decode prog_13_method_26_code 122 = .ok (.aload_n 0, 1) := by decide +kernel
theorem d_M_shrink_123 : decode prog_13_method_26_code 123 = .ok (.getfield 22, 3) := by decide +kernel
theorem d_M_shrink_126 : decode prog_13_method_26_code 126 = .ok (.iload_n 1, 1) := by decide +kernel
theorem d_M_shrink_127 : decode prog_13_method_26_code 127 = .ok (.iaload, 1) := by decide +kernel
theorem d_M_shrink_128 : decode prog_13_method_26_code 128 = .ok (.invokevirtual 197, 3) := by decide +kernel
theorem d_M_shrink_131 : decode prog_13_method_26_code 131 = .ok (.if_icmp .le 7, 3) := by decide +kernel
theorem d_M_shrink_134 : decode prog_13_method_26_code 134 = .ok (.iconst 1, 1) := by decide +kernel
theorem d_M_shrink_135 : decode prog_13_method_26_code 135 = .ok (.goto 4, 3) := by decide +kernel
theorem d_M_shrink_138 : decode prog_13_method_26_code 138 = .ok (.iconst 0, 1) := by decide +kernel
theorem d_M_shrink_139 : decode prog_13_method_26_code 139 = .ok (.istore_n 3, 1) := by decide +kernel
theorem d_M_shrink_140 : decode prog_13_method_26_code 140 = .ok (.iload_n 3, 1) := by decide +kernel
theorem d_M_shrink_141 : decode prog_13_method_26_code 141 = .ok (.ifCond .ne 22, 3) := by decide +kernel
theorem d_M_shrink_144 : decode prog_13_method_26_code 144 = .ok (.aload_n 0, 1) := by decide +kernel
theorem d_M_shrink_145 : decode prog_13_method_26_code 145 = .ok (.aload_n 0, 1) := by decide +kernel
theorem d_M_shrink_146 : decode prog_13_method_26_code 146 = .ok (.getfield 22, 3) := by decide +kernel
theorem d_M_shrink_149 : decode prog_13_method_26_code 149 = .ok (.iload_n 2, 1) := by decide +kernel
theorem d_M_shrink_150 : decode prog_13_method_26_code 150 = .ok (.iaload, 1) := by decide +kernel
theorem d_M_shrink_151 : decode prog_13_method_26_code 151 = .ok (.invokevirtual 197, 3) := by decide +kernel
theorem d_M_shrink_154 : decode prog_13_method_26_code 154 = .ok (.iconst 5, 1) := by decide +kernel
theorem d_M_shrink_155 : decode prog_13_method_26_code 155 = .ok (.if_icmp .le 8, 3) := by decide +kernel
theorem d_M_shrink_158 : decode prog_13_method_26_code 158 = .ok (.aload_n 0, 1) := by decide +kernel
theorem d_M_shrink_159 : decode prog_13_method_26_code 159 = .ok (.invokevirtual 200, 3) := by decide +kernel
theorem d_M_shrink_162 : decode prog_13_method_26_code 162 = .ok (.istore_n 3, 1) := by decide +kernel
theorem d_M_shrink_163 : decode prog_13_method_26_code 163 = .ok (.iload_n 3, 1) := by decide +kernel
theorem d_M_shrink_164 : decode prog_13_method_26_code 164 = .ok (.ifCond .eq 15, 3) := by decide +kernel
theorem d_M_shrink_167 : decode prog_13_method_26_code 167 = .ok (.iload_n 2, 1) := by decide +kernel
theorem d_M_shrink_168 : decode prog_13_method_26_code 168 = .ok (.iconst (-1), 1) := by decide +kernel
theorem d_M_shrink_169 : decode prog_13_method_26_code 169 = .ok (.if_icmp .eq 10, 3) := by decide +kernel
theorem d_M_shrink_172 : decode prog_13_method_26_code 172 = .ok (.aload_n 0, 1) := by decide +kernel
theorem d_M_shrink_173 : decode prog_13_method_26_code 173 = .ok (.getfield 54, 3) := by decide +kernel
theorem d_M_shrink_176 : decode prog_13_method_26_code 176 = .ok (.iload_n 2, 1) := by decide +kernel
theorem d_M_shrink_177 : decode prog_13_method_26_code 177 = .ok (.iconst 0, 1) := by decide +kernel
theorem d_M_shrink_178 : decode prog_13_method_26_code 178 = .ok (.bastore, 1) := by decide +kernel
theorem d_M_shrink_179 : decode prog_13_method_26_code 179 = .ok (.aload_n 0, 1) := by decide +kernel
theorem d_M_shrink_180 : decode prog_13_method_26_code 180 = .ok (.iload_n 3, 1) := by decide +kernel
theorem d_M_shrink_181 : decode prog_13_method_26_code 181 = .ok (.ifCond .eq 7, 3) := by decide +kernel
theorem d_M_shrink_184 : decode prog_13_method_26_code 184 = .ok (.iload_n 1, 1) := by decide +kernel
theorem d_M_shrink_185 : decode prog_13_method_26_code 185 = .ok (.goto 4, 3) := by decide +kernel
theorem d_M_shrink_188 : decode prog_13_method_26_code 188 = .ok (.iload_n 2, 1) := by decide +kernel
theorem d_M_shrink_189 : decode prog_13_method_26_code 189 = .ok (.invokevirtual 204, 3) := by decide +kernel
theorem d_M_shrink_192 : decode prog_13_method_26_code 192 = .ok (.goto (-135), 3) := by decide +kernel
theorem d_M_shrink_195 : decode prog_13_method_26_code 195 = .ok (.return_, 1) := by decide +kernel
def y_M_climb : MethodName := ⟨"WindowCacheModel", "climb", "()V"⟩
theorem y_M_climb_ok : y_M_climb.cls ≠ "java/lang/invoke/MethodHandle" ∧ y_M_climb.cls ≠ "java/lang/invoke/VarHandle" ∧ (parseMethodDescriptor y_M_climb.desc).map (fun d => d.parameters.length) = some 0 := by decide +kernel
def rm_M_climb : Room := { frames := 2, cells := 0, slots := 0, locals := 43 }
theorem d_M_climb_0 : decode prog_13_method_27_code 0 = .ok (.aload_n 0, 1) := by decide +kernel
theorem d_M_climb_1 : decode prog_13_method_27_code 1 = .ok (.getfield 207, 3) := by decide +kernel
theorem d_M_climb_4 : decode prog_13_method_27_code 4 = .ok (.aload_n 0, 1) := by decide +kernel
theorem d_M_climb_5 : decode prog_13_method_27_code 5 = .ok (.getfield 210, 3) := by decide +kernel
theorem d_M_climb_8 : decode prog_13_method_27_code 8 = .ok (.iadd, 1) := by decide +kernel
theorem d_M_climb_9 : decode prog_13_method_27_code 9 = .ok (.bipush 10, 2) := by decide +kernel
theorem d_M_climb_11 : decode prog_13_method_27_code 11 = .ok (.aload_n 0, 1) := by decide +kernel
theorem d_M_climb_12 : decode prog_13_method_27_code 12 = .ok (.getfield 93, 3) := by decide +kernel
theorem d_M_climb_15 : decode prog_13_method_27_code 15 = .ok (.imul, 1) := by decide +kernel
theorem d_M_climb_16 : decode prog_13_method_27_code 16 = .ok (.if_icmp .ge 4, 3) := by decide +kernel
theorem d_M_climb_19 : decode prog_13_method_27_code 19 = .ok (.return_, 1) := by decide +kernel
theorem d_M_climb_20 : decode prog_13_method_27_code 20 = .ok (.ldc2_w 213, 3) := by decide +kernel
theorem d_M_climb_23 : decode prog_13_method_27_code 23 = .ok (.aload_n 0, 1) := by decide +kernel
theorem d_M_climb_24 : decode prog_13_method_27_code 24 = .ok (.getfield 207, 3) := by decide +kernel
theorem d_M_climb_27 : decode prog_13_method_27_code 27 = .ok (.i2l, 1) := by decide +kernel
theorem d_M_climb_28 : decode prog_13_method_27_code 28 = .ok (.lmul, 1) := by decide +kernel
theorem d_M_climb_29 : decode prog_13_method_27_code 29 = .ok (.aload_n 0, 1) := by decide +kernel
theorem d_M_climb_30 : decode prog_13_method_27_code 30 = .ok (.getfield 207, 3) := by decide +kernel
theorem d_M_climb_33 : decode prog_13_method_27_code 33 = .ok (.aload_n 0, 1) := by decide +kernel
theorem d_M_climb_34 : decode prog_13_method_27_code 34 = .ok (.getfield 210, 3) := by decide +kernel
theorem d_M_climb_37 : decode prog_13_method_27_code 37 = .ok (.iadd, 1) := by decide +kernel
theorem d_M_climb_38 : decode prog_13_method_27_code 38 = .ok (.i2l, 1) := by decide +kernel
theorem d_M_climb_39 : decode prog_13_method_27_code 39 = .ok (.ldiv, 1) := by decide +kernel
theorem d_M_climb_40 : decode prog_13_method_27_code 40 = .ok (.l2i, 1) := by decide +kernel
theorem d_M_climb_41 : decode prog_13_method_27_code 41 = .ok (.istore_n 1, 1) := by decide +kernel
theorem d_M_climb_42 : decode prog_13_method_27_code 42 = .ok (.iload_n 1, 1) := by decide +kernel
theorem d_M_climb_43 : decode prog_13_method_27_code 43 = .ok (.aload_n 0, 1) := by decide +kernel
theorem d_M_climb_44 : decode prog_13_method_27_code 44 = .ok (.getfield 215, 3) := by decide +kernel
theorem d_M_climb_47 : decode prog_13_method_27_code 47 = .ok (.if_icmp .ge 19, 3) := by decide +kernel
theorem d_M_climb_50 : decode prog_13_method_27_code 50 = .ok (.aload_n 0, 1) := by decide +kernel
theorem d_M_climb_51 : decode prog_13_method_27_code 51 = .ok (.aload_n 0, 1) := by decide +kernel
theorem d_M_climb_52 : decode prog_13_method_27_code 52 = .ok (.getfield 80, 3) := by decide +kernel
theorem d_M_climb_55 : decode prog_13_method_27_code 55 = .ok (.ifCond .ne 7, 3) := by decide +kernel
theorem d_M_climb_58 : decode prog_13_method_27_code 58 = .ok (.iconst 1, 1) := by decide +kernel
theorem d_M_climb_59 : decode prog_13_method_27_code 59 = .ok (.goto 4, 3) := by decide +kernel
theorem d_M_climb_62 : decode prog_13_method_27_code 62 = .ok (.iconst 0, 1) := by decide +kernel
theorem d_M_climb_63 : decode prog_13_method_27_code 63 = .ok (.putfield 80, 3) := by decide +kernel
theorem d_M_climb_66 : decode prog_13_method_27_code 66 = .ok (.aload_n 0, 1) := by decide +kernel
theorem d_M_climb_67 : decode prog_13_method_27_code 67 = .ok (.getfield 112, 3) := by decide +kernel
theorem d_M_climb_70 : decode prog_13_method_27_code 70 = .ok (.istore_n 2, 1) := by decide +kernel
theorem d_M_climb_71 : decode prog_13_method_27_code 71 = .ok (.iload_n 1, 1) := by decide +kernel
theorem d_M_climb_72 : decode prog_13_method_27_code 72 = .ok (.aload_n 0, 1) := by decide +kernel
theorem d_M_climb_73 : decode prog_13_method_27_code 73 = .ok (.getfield 215, 3) := by decide +kernel
theorem d_M_climb_76 : decode prog_13_method_27_code 76 = .ok (.if_icmp .ge 12, 3) := by decide +kernel
theorem d_M_climb_79 : decode prog_13_method_27_code 79 = .ok (.aload_n 0, 1) := by decide +kernel
theorem d_M_climb_80 : decode prog_13_method_27_code 80 = .ok (.getfield 215, 3) := by decide +kernel
theorem d_M_climb_83 : decode prog_13_method_27_code 83 = .ok (.iload_n 1, 1) := by decide +kernel
theorem d_M_climb_84 : decode prog_13_method_27_code 84 = .ok (.isub, 1) := by decide +kernel
theorem d_M_climb_85 : decode prog_13_method_27_code 85 = .ok (.goto 9, 3) := by decide +kernel
theorem d_M_climb_88 : decode prog_13_method_27_code 88 = .ok (.iload_n 1, 1) := by decide +kernel
theorem d_M_climb_89 : decode prog_13_method_27_code 89 = .ok (.aload_n 0, 1) := by decide +kernel
theorem d_M_climb_90 : decode prog_13_method_27_code 90 = .ok (.getfield 215, 3) := by decide +kernel
theorem d_M_climb_93 : decode prog_13_method_27_code 93 = .ok (.isub, 1) := by decide +kernel
theorem d_M_climb_94 : decode prog_13_method_27_code 94 = .ok (.istore_n 3, 1) := by decide +kernel
theorem d_M_climb_95 : decode prog_13_method_27_code 95 = .ok (.aload_n 0, 1) := by decide +kernel
theorem d_M_climb_96 : decode prog_13_method_27_code 96 = .ok (.iload_n 3, 1) := by decide +kernel
theorem d_M_climb_97 : decode prog_13_method_27_code 97 = .ok (.bipush 50, 2) := by decide +kernel
theorem d_M_climb_99 : decode prog_13_method_27_code 99 = .ok (.if_icmp .lt 10, 3) := by decide +kernel
theorem d_M_climb_102 : decode prog_13_method_27_code 102 = .ok (.aload_n 0, 1) := by decide +kernel
theorem d_M_climb_103 : decode prog_13_method_27_code 103 = .ok (.invokevirtual 108, 3) := by decide +kernel
theorem d_M_climb_106 : decode prog_13_method_27_code 106 = .ok (.goto 31, 3) := by decide +kernel
theorem d_M_climb_109 : decode prog_13_method_27_code 109 = .ok (.aload_n 0, 1) := by decide +kernel
theorem d_M_climb_110 : decode prog_13_method_27_code 110 = .ok (.getfield 112, 3) := by decide +kernel
theorem d_M_climb_113 : decode prog_13_method_27_code 113 = .ok (.bipush 63, 2) := by decide +kernel
theorem d_M_climb_115 : decode prog_13_method_27_code 115 = .ok (.imul, 1) := by decide +kernel
theorem d_M_climb_116 : decode prog_13_method_27_code 116 = .ok (.bipush 64, 2) := by decide +kernel
theorem d_M_climb_118 : decode prog_13_method_27_code 118 = .ok (.idiv, 1) := by decide +kernel
theorem d_M_climb_119 : decode prog_13_method_27_code 119 = .ok (.iconst 1, 1) := by decide +kernel
theorem d_M_climb_120 : decode prog_13_method_27_code 120 = .ok (.if_icmp .ge 7, 3) := by decide +kernel
theorem d_M_climb_123 : decode prog_13_method_27_code 123 = .ok (.iconst 1, 1) := by decide +kernel
theorem d_M_climb_124 : decode prog_13_method_27_code 124 = .ok (.goto 13, 3) := by decide +kernel
theorem d_M_climb_127 : decode prog_13_method_27_code 127 = .ok (.aload_n 0, 1) := by decide +kernel
theorem d_M_climb_128 : decode prog_13_method_27_code 128 = .ok (.getfield 112, 3) := by decide +kernel
theorem d_M_climb_131 : decode prog_13_method_27_code 131 = .ok (.bipush 63, 2) := by decide +kernel
theorem d_M_climb_133 : decode prog_13_method_27_code 133 = .ok (.imul, 1) := by decide +kernel
theorem d_M_climb_134 : decode prog_13_method_27_code 134 = .ok (.bipush 64, 2) := by decide +kernel
theorem d_M_climb_136 : decode prog_13_method_27_code 136 = .ok (.idiv, 1) := by decide +kernel
theorem d_M_climb_137 : decode prog_13_method_27_code 137 = .ok (.putfield 112, 3) := by decide +kernel
theorem d_M_climb_140 : decode prog_13_method_27_code 140 = .ok (.aload_n 0, 1) := by decide +kernel
theorem d_M_climb_141 : decode prog_13_method_27_code 141 = .ok (.iload_n 1, 1) := by decide +kernel
theorem d_M_climb_142 : decode prog_13_method_27_code 142 = .ok (.putfield 215, 3) := by decide +kernel
theorem d_M_climb_145 : decode prog_13_method_27_code 145 = .ok (.aload_n 0, 1) := by decide +kernel
theorem d_M_climb_146 : decode prog_13_method_27_code 146 = .ok (.iconst 0, 1) := by decide +kernel
theorem d_M_climb_147 : decode prog_13_method_27_code 147 = .ok (.putfield 207, 3) := by decide +kernel
theorem d_M_climb_150 : decode prog_13_method_27_code 150 = .ok (.aload_n 0, 1) := by decide +kernel
theorem d_M_climb_151 : decode prog_13_method_27_code 151 = .ok (.iconst 0, 1) := by decide +kernel
theorem d_M_climb_152 : decode prog_13_method_27_code 152 = .ok (.putfield 210, 3) := by decide +kernel
theorem d_M_climb_155 : decode prog_13_method_27_code 155 = .ok (.aload_n 0, 1) := by decide +kernel
theorem d_M_climb_156 : decode prog_13_method_27_code 156 = .ok (.aload_n 0, 1) := by decide +kernel
theorem d_M_climb_157 : decode prog_13_method_27_code 157 = .ok (.getfield 80, 3) := by decide +kernel
theorem d_M_climb_160 : decode prog_13_method_27_code 160 = .ok (.ifCond .eq 36, 3) := by decide +kernel
theorem d_M_climb_163 : decode prog_13_method_27_code 163 = .ok (.aload_n 0, 1) := by decide +kernel
theorem d_M_climb_164 : decode prog_13_method_27_code 164 = .ok (.getfield 105, 3) := by decide +kernel
theorem d_M_climb_167 : decode prog_13_method_27_code 167 = .ok (.iload_n 2, 1) := by decide +kernel
theorem d_M_climb_168 : decode prog_13_method_27_code 168 = .ok (.iadd, 1) := by decide +kernel
theorem d_M_climb_169 : decode prog_13_method_27_code 169 = .ok (.aload_n 0, 1) := by decide +kernel
theorem d_M_climb_170 : decode prog_13_method_27_code 170 = .ok (.getfield 93, 3) := by decide +kernel
theorem d_M_climb_173 : decode prog_13_method_27_code 173 = .ok (.iconst 1, 1) := by decide +kernel
theorem d_M_climb_174 : decode prog_13_method_27_code 174 = .ok (.isub, 1) := by decide +kernel
theorem d_M_climb_175 : decode prog_13_method_27_code 175 = .ok (.if_icmp .le 12, 3) := by decide +kernel
theorem d_M_climb_178 : decode prog_13_method_27_code 178 = .ok (.aload_n 0, 1) := by decide +kernel
theorem d_M_climb_179 : decode prog_13_method_27_code 179 = .ok (.getfield 93, 3) := by decide +kernel
theorem d_M_climb_182 : decode prog_13_method_27_code 182 = .ok (.iconst 1, 1) := by decide +kernel
theorem d_M_climb_183 : decode prog_13_method_27_code 183 = .ok (.isub, 1) := by decide +kernel
theorem d_M_climb_184 : decode prog_13_method_27_code 184 = .ok (.goto 18, 3) := by decide +kernel
theorem d_M_climb_187 : decode prog_13_method_27_code 187 = .ok (.aload_n 0, 1) := by decide +kernel
theorem d_M_climb_188 : decode prog_13_method_27_code 188 = .ok (.getfield 105, 3) := by decide +kernel
theorem d_M_climb_191 : decode prog_13_method_27_code 191 = .ok (.iload_n 2, 1) := by decide +kernel
theorem d_M_climb_192 : decode prog_13_method_27_code 192 = .ok (.iadd, 1) := by decide +kernel
theorem d_M_climb_193 : decode prog_13_method_27_code 193 = .ok (.goto 9, 3) := by decide +kernel
theorem d_M_climb_196 : decode prog_13_method_27_code 196 = .ok (.aload_n 0, 1) := by decide +kernel
theorem d_M_climb_197 : decode prog_13_method_27_code 197 = .ok (.getfield 105, 3) := by decide +kernel
theorem d_M_climb_200 : decode prog_13_method_27_code 200 = .ok (.iload_n 2, 1) := by decide +kernel
theorem d_M_climb_201 : decode prog_13_method_27_code 201 = .ok (.isub, 1) := by decide +kernel
theorem d_M_climb_202 : decode prog_13_method_27_code 202 = .ok (.putfield 105, 3) := by decide +kernel
theorem d_M_climb_205 : decode prog_13_method_27_code 205 = .ok (.aload_n 0, 1) := by decide +kernel
theorem d_M_climb_206 : decode prog_13_method_27_code 206 = .ok (.aload_n 0, 1) := by decide +kernel
theorem d_M_climb_207 : decode prog_13_method_27_code 207 = .ok (.getfield 105, 3) := by decide +kernel
theorem d_M_climb_210 : decode prog_13_method_27_code 210 = .ok (.iconst 1, 1) := by decide +kernel
theorem d_M_climb_211 : decode prog_13_method_27_code 211 = .ok (.if_icmp .ge 7, 3) := by decide +kernel
theorem d_M_climb_214 : decode prog_13_method_27_code 214 = .ok (.iconst 1, 1) := by decide +kernel
theorem d_M_climb_215 : decode prog_13_method_27_code 215 = .ok (.goto 7, 3) := by decide +kernel
theorem d_M_climb_218 : decode prog_13_method_27_code 218 = .ok (.aload_n 0, 1) := by decide +kernel
theorem d_M_climb_219 : decode prog_13_method_27_code 219 = .ok (.getfield 105, 3) := by decide +kernel
theorem d_M_climb_222 : decode prog_13_method_27_code 222 = .ok (.putfield 105, 3) := by decide +kernel
theorem d_M_climb_225 : decode prog_13_method_27_code 225 = .ok (.aload_n 0, 1) := by decide +kernel
theorem d_M_climb_226 : decode prog_13_method_27_code 226 = .ok (.getfield 80, 3) := by decide +kernel
theorem d_M_climb_229 : decode prog_13_method_27_code 229 = .ok (.istore 4, 2) := by decide +kernel
theorem d_M_climb_231 : decode prog_13_method_27_code 231 = .ok (.iload 4, 2) := by decide +kernel
theorem d_M_climb_233 : decode prog_13_method_27_code 233 = .ok (.ifCond .eq 75, 3) := by decide +kernel
theorem d_M_climb_236 : decode prog_13_method_27_code 236 = .ok (.aload_n 0, 1) := by decide +kernel
theorem d_M_climb_237 : decode prog_13_method_27_code 237 = .ok (.iconst 2, 1) := by decide +kernel
theorem d_M_climb_238 : decode prog_13_method_27_code 238 = .ok (.invokevirtual 153, 3) := by decide +kernel
theorem d_M_climb_241 : decode prog_13_method_27_code 241 = .ok (.iconst (-1), 1) := by decide +kernel
theorem d_M_climb_242 : decode prog_13_method_27_code 242 = .ok (.if_icmp .eq 11, 3) := by decide +kernel
theorem d_M_climb_245 : decode prog_13_method_27_code 245 = .ok (.aload_n 0, 1) := by decide +kernel
theorem d_M_climb_246 : decode prog_13_method_27_code 246 = .ok (.iconst 2, 1) := by decide +kernel
theorem d_M_climb_247 : decode prog_13_method_27_code 247 = .ok (.invokevirtual 153, 3) := by decide +kernel
theorem d_M_climb_250 : decode prog_13_method_27_code 250 = .ok (.goto 8, 3) := by decide +kernel
theorem d_M_climb_253 : decode prog_13_method_27_code 253 = .ok (.aload_n 0, 1) := by decide +kernel
theorem d_M_climb_254 : decode prog_13_method_27_code 254 = .ok (.iconst 3, 1) := by decide +kernel
theorem d_M_climb_255 : decode prog_13_method_27_code 255 = .ok (.invokevirtual 153, 3) := by decide +kernel
theorem d_M_climb_258 : decode prog_13_method_27_code 258 = .ok (.istore 5, 2) := by decide +kernel
theorem d_M_climb_260 : decode prog_13_method_27_code 260 = .ok (.iload 5, 2) := by decide +kernel
theorem d_M_climb_262 : decode prog_13_method_27_code 262 = .ok (.iconst (-1), 1) := by decide +kernel
theorem d_M_climb_263 : decode prog_13_method_27_code 263 = .ok (.if_icmp .eq 27, 3) := by decide +kernel
theorem d_M_climb_266 : decode prog_13_method_27_code 266 = .ok (.aload_n 0, 1) := by decide +kernel
theorem d_M_climb_267 : decode prog_13_method_27_code 267 = .ok (.iconst 1, 1) := by decide +kernel
theorem d_M_climb_268 : decode prog_13_method_27_code 268 = .ok (.invokevirtual 146, 3) := by decide +kernel
theorem d_M_climb_271 : decode prog_13_method_27_code 271 = .ok (.aload_n 0, 1) := by decide +kernel
theorem d_M_climb_272 : decode prog_13_method_27_code 272 = .ok (.getfield 28, 3) := by decide +kernel
theorem d_M_climb_275 : decode prog_13_method_27_code 275 = .ok (.iload 5, 2) := by decide +kernel
theorem d_M_climb_277 : decode prog_13_method_27_code 277 = .ok (.iaload, 1) := by decide +kernel
theorem d_M_climb_278 : decode prog_13_method_27_code 278 = .ok (.iadd, 1) := by decide +kernel
theorem d_M_climb_279 : decode prog_13_method_27_code 279 = .ok (.aload_n 0, 1) := by decide +kernel
theorem d_M_climb_280 : decode prog_13_method_27_code 280 = .ok (.getfield 105, 3) := by decide +kernel
theorem d_M_climb_283 : decode prog_13_method_27_code 283 = .ok (.if_icmp .gt 7, 3) := by decide +kernel
theorem d_M_climb_286 : decode prog_13_method_27_code 286 = .ok (.iconst 1, 1) := by decide +kernel
theorem d_M_climb_287 : decode prog_13_method_27_code 287 = .ok (.goto 4, 3) := by decide +kernel
theorem d_M_climb_290 : decode prog_13_method_27_code 290 = .ok (.iconst 0, 1) := by decide +kernel
theorem d_M_climb_291 : decode prog_13_method_27_code 291 = .ok (.istore 4, 2) := by decide +kernel
theorem d_M_climb_293 : decode prog_13_method_27_code 293 = .ok (.iload 4, 2) := by decide +kernel
theorem d_M_climb_295 : decode prog_13_method_27_code 295 = .ok (.ifCond .eq 10, 3) := by decide +kernel
theorem d_M_climb_298 : decode prog_13_method_27_code 298 = .ok (.aload_n 0, 1) := by decide +kernel
theorem d_M_climb_299 : decode prog_13_method_27_code 299 = .ok (.iload 5, 2) := by decide +kernel
theorem d_M_climb_301 : decode prog_13_method_27_code 301 = .ok (.iconst 1, 1) := by decide +kernel
theorem d_M_climb_302 : decode prog_13_method_27_code 302 = .ok (.invokevirtual 156, 3) := by decide +kernel
theorem d_M_climb_305 : decode prog_13_method_27_code 305 = .ok (.goto (-74), 3) := by decide +kernel
theorem d_M_climb_308 : decode prog_13_method_27_code 308 = .ok (.aload_n 0, 1) := by decide +kernel
theorem d_M_climb_309 : decode prog_13_method_27_code 309 = .ok (.getfield 80, 3) := by decide +kernel
theorem d_M_climb_312 : decode prog_13_method_27_code 312 = .ok (.ifCond .ne 28, 3) := by decide +kernel
theorem d_M_climb_315 : decode prog_13_method_27_code 315 = .ok (.aload_n 0, 1) := by decide +kernel
theorem d_M_climb_316 : decode prog_13_method_27_code 316 = .ok (.iconst 1, 1) := by decide +kernel
theorem d_M_climb_317 : decode prog_13_method_27_code 317 = .ok (.invokevirtual 146, 3) := by decide +kernel
theorem d_M_climb_320 : decode prog_13_method_27_code 320 = .ok (.aload_n 0, 1) := by decide +kernel
theorem d_M_climb_321 : decode prog_13_method_27_code 321 = .ok (.getfield 105, 3) := by decide +kernel
theorem d_M_climb_324 : decode prog_13_method_27_code 324 = .ok (.if_icmp .le 16, 3) := by decide +kernel
theorem d_M_climb_327 : decode prog_13_method_27_code 327 = .ok (.aload_n 0, 1) := by decide +kernel
theorem d_M_climb_328 : decode prog_13_method_27_code 328 = .ok (.aload_n 0, 1) := by decide +kernel
theorem d_M_climb_329 : decode prog_13_method_27_code 329 = .ok (.iconst 1, 1) := by decide +kernel
theorem d_M_climb_330 : decode prog_13_method_27_code 330 = .ok (.invokevirtual 153, 3) := by decide +kernel
theorem d_M_climb_333 : decode prog_13_method_27_code 333 = .ok (.iconst 2, 1) := by decide +kernel
theorem d_M_climb_334 : decode prog_13_method_27_code 334 = .ok (.invokevirtual 156, 3) := by decide +kernel
theorem d_M_climb_337 : decode prog_13_method_27_code 337 = .ok (.goto (-29), 3) := by decide +kernel
theorem d_M_climb_340 : decode prog_13_method_27_code 340 = .ok (.aload_n 0, 1) := by decide +kernel
theorem d_M_climb_341 : decode prog_13_method_27_code 341 = .ok (.invokevirtual 160, 3) := by decide +kernel
theorem d_M_climb_344 : decode prog_13_method_27_code 344 = .ok (.return_, 1) := by decide +kernel
def y_M_maintenance : MethodName := ⟨"WindowCacheModel", "maintenance", "()V"⟩
theorem y_M_maintenance_ok : y_M_maintenance.cls ≠ "java/lang/invoke/MethodHandle" ∧ y_M_maintenance.cls ≠ "java/lang/invoke/VarHandle" ∧ (parseMethodDescriptor y_M_maintenance.desc).map (fun d => d.parameters.length) = some 0 := by decide +kernel
def rm_M_maintenance : Room := { frames := 4, cells := 0, slots := 0, locals := 88 }
theorem d_M_maintenance_0 : decode prog_13_method_28_code 0 = .ok (.aload_n 0, 1) := by decide +kernel
theorem d_M_maintenance_1 : decode prog_13_method_28_code 1 = .ok (.invokevirtual 218, 3) := by decide +kernel
theorem d_M_maintenance_4 : decode prog_13_method_28_code 4 = .ok (.aload_n 0, 1) := by decide +kernel
theorem d_M_maintenance_5 : decode prog_13_method_28_code 5 = .ok (.invokevirtual 221, 3) := by decide +kernel
theorem d_M_maintenance_8 : decode prog_13_method_28_code 8 = .ok (.aload_n 0, 1) := by decide +kernel
theorem d_M_maintenance_9 : decode prog_13_method_28_code 9 = .ok (.invokevirtual 224, 3) := by decide +kernel
theorem d_M_maintenance_12 : decode prog_13_method_28_code 12 = .ok (.aload_n 0, 1) := by decide +kernel
theorem d_M_maintenance_13 : decode prog_13_method_28_code 13 = .ok (.invokevirtual 227, 3) := by decide +kernel
theorem d_M_maintenance_16 : decode prog_13_method_28_code 16 = .ok (.aload_n 0, 1) := by decide +kernel
theorem d_M_maintenance_17 : decode prog_13_method_28_code 17 = .ok (.invokevirtual 230, 3) := by decide +kernel
theorem d_M_maintenance_20 : decode prog_13_method_28_code 20 = .ok (.return_, 1) := by decide +kernel
def y_M_task : MethodName := ⟨"WindowCacheModel", "task", "(II)V"⟩
theorem y_M_task_ok : y_M_task.cls ≠ "java/lang/invoke/MethodHandle" ∧ y_M_task.cls ≠ "java/lang/invoke/VarHandle" ∧ (parseMethodDescriptor y_M_task.desc).map (fun d => d.parameters.length) = some 2 := by decide +kernel
def rm_M_task : Room := { frames := 5, cells := 0, slots := 0, locals := 108 }
theorem d_M_task_0 : decode prog_13_method_19_code 0 = .ok (.aload_n 0, 1) := by decide +kernel
theorem d_M_task_1 : decode prog_13_method_19_code 1 = .ok (.getfield 63, 3) := by decide +kernel
theorem d_M_task_4 : decode prog_13_method_19_code 4 = .ok (.aload_n 0, 1) := by decide +kernel
theorem d_M_task_5 : decode prog_13_method_19_code 5 = .ok (.getfield 169, 3) := by decide +kernel
theorem d_M_task_8 : decode prog_13_method_19_code 8 = .ok (.iload_n 1, 1) := by decide +kernel
theorem d_M_task_9 : decode prog_13_method_19_code 9 = .ok (.iastore, 1) := by decide +kernel
theorem d_M_task_10 : decode prog_13_method_19_code 10 = .ok (.aload_n 0, 1) := by decide +kernel
theorem d_M_task_11 : decode prog_13_method_19_code 11 = .ok (.getfield 66, 3) := by decide +kernel
theorem d_M_task_14 : decode prog_13_method_19_code 14 = .ok (.aload_n 0, 1) := by decide +kernel
theorem d_M_task_15 : decode prog_13_method_19_code 15 = .ok (.getfield 169, 3) := by decide +kernel
theorem d_M_task_18 : decode prog_13_method_19_code 18 = .ok (.iload_n 2, 1) := by decide +kernel
theorem d_M_task_19 : decode prog_13_method_19_code 19 = .ok (.iastore, 1) := by decide +kernel
theorem d_M_task_20 : decode prog_13_method_19_code 20 = .ok (.aload_n 0, 1) := by decide +kernel
theorem d_M_task_21 : decode prog_13_method_19_code 21 = .ok (.dup, 1) := by decide +kernel
theorem d_M_task_22 : decode prog_13_method_19_code 22 = .ok (.getfield 169, 3) := by decide +kernel
theorem d_M_task_25 : decode prog_13_method_19_code 25 = .ok (.iconst 1, 1) := by decide +kernel
theorem d_M_task_26 : decode prog_13_method_19_code 26 = .ok (.iadd, 1) := by decide +kernel
theorem d_M_task_27 : decode prog_13_method_19_code 27 = .ok (.putfield 169, 3) := by decide +kernel
theorem d_M_task_30 : decode prog_13_method_19_code 30 = .ok (.aload_n 0, 1) := by decide +kernel
theorem d_M_task_31 : decode prog_13_method_19_code 31 = .ok (.getfield 169, 3) := by decide +kernel
theorem d_M_task_34 : decode prog_13_method_19_code 34 = .ok (.bipush 8, 2) := by decide +kernel
theorem d_M_task_36 : decode prog_13_method_19_code 36 = .ok (.if_icmp .ne 7, 3) := by decide +kernel
theorem d_M_task_39 : decode prog_13_method_19_code 39 = .ok (.aload_n 0, 1) := by decide +kernel
theorem d_M_task_40 : decode prog_13_method_19_code 40 = .ok (.invokevirtual 172, 3) := by decide +kernel
theorem d_M_task_43 : decode prog_13_method_19_code 43 = .ok (.return_, 1) := by decide +kernel
def y_M_lay : MethodName := ⟨"WindowCacheModel", "lay", "(IIII)Z"⟩
theorem y_M_lay_ok : y_M_lay.cls ≠ "java/lang/invoke/MethodHandle" ∧ y_M_lay.cls ≠ "java/lang/invoke/VarHandle" ∧ (parseMethodDescriptor y_M_lay.desc).map (fun d => d.parameters.length) = some 4 := by decide +kernel
def rm_M_lay : Room := { frames := 6, cells := 0, slots := 0, locals := 130 }
theorem d_M_lay_0 : decode prog_13_method_32_code 0 = .ok (.aload_n 0, 1) := by decide +kernel
theorem d_M_lay_1 : decode prog_13_method_32_code 1 = .ok (.iload_n 1, 1) := by decide +kernel
theorem d_M_lay_2 : decode prog_13_method_32_code 2 = .ok (.invokevirtual 233, 3) := by decide +kernel
theorem d_M_lay_5 : decode prog_13_method_32_code 5 = .ok (.istore 5, 2) := by decide +kernel
theorem d_M_lay_7 : decode prog_13_method_32_code 7 = .ok (.iload 5, 2) := by decide +kernel
theorem d_M_lay_9 : decode prog_13_method_32_code 9 = .ok (.iconst (-1), 1) := by decide +kernel
theorem d_M_lay_10 : decode prog_13_method_32_code 10 = .ok (.if_icmp .eq 7, 3) := by decide +kernel
theorem d_M_lay_13 : decode prog_13_method_32_code 13 = .ok (.iconst 1, 1) := by decide +kernel
theorem d_M_lay_14 : decode prog_13_method_32_code 14 = .ok (.goto 4, 3) := by decide +kernel
theorem d_M_lay_17 : decode prog_13_method_32_code 17 = .ok (.iconst 0, 1) := by decide +kernel
theorem d_M_lay_18 : decode prog_13_method_32_code 18 = .ok (.istore 6, 2) := by decide +kernel
theorem d_M_lay_20 : decode prog_13_method_32_code 20 = .ok (.iload 6, 2) := by decide +kernel
theorem d_M_lay_22 : decode prog_13_method_32_code 22 = .ok (.ifCond .eq 13, 3) := by decide +kernel
theorem d_M_lay_25 : decode prog_13_method_32_code 25 = .ok (.aload_n 0, 1) := by decide +kernel
theorem d_M_lay_26 : decode prog_13_method_32_code 26 = .ok (.iload 5, 2) := by decide +kernel
theorem d_M_lay_28 : decode prog_13_method_32_code 28 = .ok (.iconst 1, 1) := by decide +kernel
theorem d_M_lay_29 : decode prog_13_method_32_code 29 = .ok (.invokevirtual 166, 3) := by decide +kernel
theorem d_M_lay_32 : decode prog_13_method_32_code 32 = .ok (.goto 87, 3) := by decide +kernel
theorem d_M_lay_35 : decode prog_13_method_32_code 35 = .ok (.aload_n 0, 1) := by decide +kernel
theorem d_M_lay_36 : decode prog_13_method_32_code 36 = .ok (.getfield 7, 3) := by decide +kernel
theorem d_M_lay_39 : decode prog_13_method_32_code 39 = .ok (.iload_n 1, 1) := by decide +kernel
theorem d_M_lay_40 : decode prog_13_method_32_code 40 = .ok (.iaload, 1) := by decide +kernel
theorem d_M_lay_41 : decode prog_13_method_32_code 41 = .ok (.istore 7, 2) := by decide +kernel
theorem d_M_lay_43 : decode prog_13_method_32_code 43 = .ok (.iload 7, 2) := by decide +kernel
theorem d_M_lay_45 : decode prog_13_method_32_code 45 = .ok (.iconst (-1), 1) := by decide +kernel
theorem d_M_lay_46 : decode prog_13_method_32_code 46 = .ok (.if_icmp .eq 17, 3) := by decide +kernel
theorem d_M_lay_49 : decode prog_13_method_32_code 49 = .ok (.aload_n 0, 1) := by decide +kernel
theorem d_M_lay_50 : decode prog_13_method_32_code 50 = .ok (.iload 7, 2) := by decide +kernel
theorem d_M_lay_52 : decode prog_13_method_32_code 52 = .ok (.iconst 2, 1) := by decide +kernel
theorem d_M_lay_53 : decode prog_13_method_32_code 53 = .ok (.invokevirtual 182, 3) := by decide +kernel
theorem d_M_lay_56 : decode prog_13_method_32_code 56 = .ok (.aload_n 0, 1) := by decide +kernel
theorem d_M_lay_57 : decode prog_13_method_32_code 57 = .ok (.iconst 2, 1) := by decide +kernel
theorem d_M_lay_58 : decode prog_13_method_32_code 58 = .ok (.iload 7, 2) := by decide +kernel
theorem d_M_lay_60 : decode prog_13_method_32_code 60 = .ok (.invokevirtual 251, 3) := by decide +kernel
theorem d_M_lay_63 : decode prog_13_method_32_code 63 = .ok (.aload_n 0, 1) := by decide +kernel
theorem d_M_lay_64 : decode prog_13_method_32_code 64 = .ok (.getfield 143, 3) := by decide +kernel
theorem d_M_lay_67 : decode prog_13_method_32_code 67 = .ok (.istore 5, 2) := by decide +kernel
theorem d_M_lay_69 : decode prog_13_method_32_code 69 = .ok (.aload_n 0, 1) := by decide +kernel
theorem d_M_lay_70 : decode prog_13_method_32_code 70 = .ok (.dup, 1) := by decide +kernel
theorem d_M_lay_71 : decode prog_13_method_32_code 71 = .ok (.getfield 143, 3) := by decide +kernel
theorem d_M_lay_74 : decode prog_13_method_32_code 74 = .ok (.iconst 1, 1) := by decide +kernel
theorem d_M_lay_75 : decode prog_13_method_32_code 75 = .ok (.iadd, 1) := by decide +kernel
theorem d_M_lay_76 : decode prog_13_method_32_code 76 = .ok (.putfield 143, 3) := by decide +kernel
theorem d_M_lay_79 : decode prog_13_method_32_code 79 = .ok (.aload_n 0, 1) := by decide +kernel
theorem d_M_lay_80 : decode prog_13_method_32_code 80 = .ok (.getfield 22, 3) := by decide +kernel
theorem d_M_lay_83 : decode prog_13_method_32_code 83 = .ok (.iload 5, 2) := by decide +kernel
theorem d_M_lay_85 : decode prog_13_method_32_code 85 = .ok (.iload_n 1, 1) := by decide +kernel
theorem d_M_lay_86 : decode prog_13_method_32_code 86 = .ok (.iastore, 1) := by decide +kernel
theorem d_M_lay_87 : decode prog_13_method_32_code 87 = .ok (.aload_n 0, 1) := by decide +kernel
theorem d_M_lay_88 : decode prog_13_method_32_code 88 = .ok (.getfield 50, 3) := by decide +kernel
theorem d_M_lay_91 : decode prog_13_method_32_code 91 = .ok (.iload 5, 2) := by decide +kernel
theorem d_M_lay_93 : decode prog_13_method_32_code 93 = .ok (.iconst 1, 1) := by decide +kernel
theorem d_M_lay_94 : decode prog_13_method_32_code 94 = .ok (.bastore, 1) := by decide +kernel
theorem d_M_lay_95 : decode prog_13_method_32_code 95 = .ok (.aload_n 0, 1) := by decide +kernel
theorem d_M_lay_96 : decode prog_13_method_32_code 96 = .ok (.getfield 34, 3) := by decide +kernel
theorem d_M_lay_99 : decode prog_13_method_32_code 99 = .ok (.iload 5, 2) := by decide +kernel
theorem d_M_lay_101 : decode prog_13_method_32_code 101 = .ok (.iconst 0, 1) := by decide +kernel
theorem d_M_lay_102 : decode prog_13_method_32_code 102 = .ok (.iastore, 1) := by decide +kernel
theorem d_M_lay_103 : decode prog_13_method_32_code 103 = .ok (.aload_n 0, 1) := by decide +kernel
theorem d_M_lay_104 : decode prog_13_method_32_code 104 = .ok (.getfield 37, 3) := by decide +kernel
theorem d_M_lay_107 : decode prog_13_method_32_code 107 = .ok (.iload 5, 2) := by decide +kernel
theorem d_M_lay_109 : decode prog_13_method_32_code 109 = .ok (.iconst 0, 1) := by decide +kernel
theorem d_M_lay_110 : decode prog_13_method_32_code 110 = .ok (.iastore, 1) := by decide +kernel
theorem d_M_lay_111 : decode prog_13_method_32_code 111 = .ok (.aload_n 0, 1) := by decide +kernel
theorem d_M_lay_112 : decode prog_13_method_32_code 112 = .ok (.getfield 7, 3) := by decide +kernel
theorem d_M_lay_115 : decode prog_13_method_32_code 115 = .ok (.iload_n 1, 1) := by decide +kernel
theorem d_M_lay_116 : decode prog_13_method_32_code 116 = .ok (.iload 5, 2) := by decide +kernel
theorem d_M_lay_118 : decode prog_13_method_32_code 118 = .ok (.iastore, 1) := by decide +kernel
theorem d_M_lay_119 : decode prog_13_method_32_code 119 = .ok (.aload_n 0, 1) := by decide +kernel
theorem d_M_lay_120 : decode prog_13_method_32_code 120 = .ok (.getfield 25, 3) := by decide +kernel
theorem d_M_lay_123 : decode prog_13_method_32_code 123 = .ok (.iload 5, 2) := by decide +kernel
theorem d_M_lay_125 : decode prog_13_method_32_code 125 = .ok (.iload_n 2, 1) := by decide +kernel
theorem d_M_lay_126 : decode prog_13_method_32_code 126 = .ok (.iastore, 1) := by decide +kernel
theorem d_M_lay_127 : decode prog_13_method_32_code 127 = .ok (.aload_n 0, 1) := by decide +kernel
theorem d_M_lay_128 : decode prog_13_method_32_code 128 = .ok (.getfield 28, 3) := by decide +kernel
theorem d_M_lay_131 : decode prog_13_method_32_code 131 = .ok (.iload 5, 2) := by decide +kernel
theorem d_M_lay_133 : decode prog_13_method_32_code 133 = .ok (.iload_n 3, 1) := by decide +kernel
theorem d_M_lay_134 : decode prog_13_method_32_code 134 = .ok (.iastore, 1) := by decide +kernel
theorem d_M_lay_135 : decode prog_13_method_32_code 135 = .ok (.aload_n 0, 1) := by decide +kernel
theorem d_M_lay_136 : decode prog_13_method_32_code 136 = .ok (.getfield 31, 3) := by decide +kernel
theorem d_M_lay_139 : decode prog_13_method_32_code 139 = .ok (.iload 5, 2) := by decide +kernel
theorem d_M_lay_141 : decode prog_13_method_32_code 141 = .ok (.iload 4, 2) := by decide +kernel
theorem d_M_lay_143 : decode prog_13_method_32_code 143 = .ok (.iastore, 1) := by decide +kernel
theorem d_M_lay_144 : decode prog_13_method_32_code 144 = .ok (.aload_n 0, 1) := by decide +kernel
theorem d_M_lay_145 : decode prog_13_method_32_code 145 = .ok (.getfield 40, 3) := by decide +kernel
theorem d_M_lay_148 : decode prog_13_method_32_code 148 = .ok (.iload 5, 2) := by decide +kernel
theorem d_M_lay_150 : decode prog_13_method_32_code 150 = .ok (.aload_n 0, 1) := by decide +kernel
theorem d_M_lay_151 : decode prog_13_method_32_code 151 = .ok (.getfield 128, 3) := by decide +kernel
theorem d_M_lay_154 : decode prog_13_method_32_code 154 = .ok (.lastore, 1) := by decide +kernel
theorem d_M_lay_155 : decode prog_13_method_32_code 155 = .ok (.aload_n 0, 1) := by decide +kernel
theorem d_M_lay_156 : decode prog_13_method_32_code 156 = .ok (.getfield 44, 3) := by decide +kernel
theorem d_M_lay_159 : decode prog_13_method_32_code 159 = .ok (.iload 5, 2) := by decide +kernel
theorem d_M_lay_161 : decode prog_13_method_32_code 161 = .ok (.aload_n 0, 1) := by decide +kernel
theorem d_M_lay_162 : decode prog_13_method_32_code 162 = .ok (.getfield 128, 3) := by decide +kernel
theorem d_M_lay_165 : decode prog_13_method_32_code 165 = .ok (.lastore, 1) := by decide +kernel
theorem d_M_lay_166 : decode prog_13_method_32_code 166 = .ok (.aload_n 0, 1) := by decide +kernel
theorem d_M_lay_167 : decode prog_13_method_32_code 167 = .ok (.getfield 37, 3) := by decide +kernel
theorem d_M_lay_170 : decode prog_13_method_32_code 170 = .ok (.iload 5, 2) := by decide +kernel
theorem d_M_lay_172 : decode prog_13_method_32_code 172 = .ok (.dup2, 1) := by decide +kernel
theorem d_M_lay_173 : decode prog_13_method_32_code 173 = .ok (.iaload, 1) := by decide +kernel
theorem d_M_lay_174 : decode prog_13_method_32_code 174 = .ok (.iconst 1, 1) := by decide +kernel
theorem d_M_lay_175 : decode prog_13_method_32_code 175 = .ok (.iadd, 1) := by decide +kernel
theorem d_M_lay_176 : decode prog_13_method_32_code 176 = .ok (.iastore, 1) := by decide +kernel
theorem d_M_lay_177 : decode prog_13_method_32_code 177 = .ok (.aload_n 0, 1) := by decide +kernel
theorem d_M_lay_178 : decode prog_13_method_32_code 178 = .ok (.iload 6, 2) := by decide +kernel
theorem d_M_lay_180 : decode prog_13_method_32_code 180 = .ok (.ifCond .eq 7, 3) := by decide +kernel
theorem d_M_lay_183 : decode prog_13_method_32_code 183 = .ok (.iconst 1, 1) := by decide +kernel
theorem d_M_lay_184 : decode prog_13_method_32_code 184 = .ok (.goto 4, 3) := by decide +kernel
theorem d_M_lay_187 : decode prog_13_method_32_code 187 = .ok (.iconst 0, 1) := by decide +kernel
theorem d_M_lay_188 : decode prog_13_method_32_code 188 = .ok (.iload 5, 2) := by decide +kernel
theorem d_M_lay_190 : decode prog_13_method_32_code 190 = .ok (.invokevirtual 251, 3) := by decide +kernel
theorem d_M_lay_193 : decode prog_13_method_32_code 193 = .ok (.iload 6, 2) := by decide +kernel
theorem d_M_lay_195 : decode prog_13_method_32_code 195 = .ok (.ireturn, 1) := by decide +kernel
def y_M_put : MethodName := ⟨"WindowCacheModel", "put", "(IIII)Z"⟩
theorem y_M_put_ok : y_M_put.cls ≠ "java/lang/invoke/MethodHandle" ∧ y_M_put.cls ≠ "java/lang/invoke/VarHandle" ∧ (parseMethodDescriptor y_M_put.desc).map (fun d => d.parameters.length) = some 4 := by decide +kernel
def rm_M_put : Room := { frames := 7, cells := 0, slots := 0, locals := 157 }
theorem d_M_put_0 : decode prog_13_method_33_code 0 = .ok (.aload_n 0, 1) := by decide +kernel
theorem d_M_put_1 : decode prog_13_method_33_code 1 = .ok (.iload_n 1, 1) := by decide +kernel
theorem d_M_put_2 : decode prog_13_method_33_code 2 = .ok (.invokestatic 245, 3) := by decide +kernel
theorem d_M_put_5 : decode prog_13_method_33_code 5 = .ok (.ifCond .eq 24, 3) := by decide +kernel
theorem d_M_put_8 : decode prog_13_method_33_code 8 = .ok (.iload_n 2, 1) := by decide +kernel
theorem d_M_put_9 : decode prog_13_method_33_code 9 = .ok (.ifCond .lt 20, 3) := by decide +kernel
theorem d_M_put_12 : decode prog_13_method_33_code 12 = .ok (.iload_n 3, 1) := by decide +kernel
theorem d_M_put_13 : decode prog_13_method_33_code 13 = .ok (.iconst 1, 1) := by decide +kernel
theorem d_M_put_14 : decode prog_13_method_33_code 14 = .ok (.if_icmp .lt 15, 3) := by decide +kernel
theorem d_M_put_17 : decode prog_13_method_33_code 17 = .ok (.iload_n 3, 1) := by decide +kernel
theorem d_M_put_18 : decode prog_13_method_33_code 18 = .ok (.sipush 1000, 3) := by decide +kernel
theorem d_M_put_21 : decode prog_13_method_33_code 21 = .ok (.if_icmp .gt 8, 3) := by decide +kernel
theorem d_M_put_24 : decode prog_13_method_33_code 24 = .ok (.iload 4, 2) := by decide +kernel
theorem d_M_put_26 : decode prog_13_method_33_code 26 = .ok (.ifCond .ge 7, 3) := by decide +kernel
theorem d_M_put_29 : decode prog_13_method_33_code 29 = .ok (.iconst 1, 1) := by decide +kernel
theorem d_M_put_30 : decode prog_13_method_33_code 30 = .ok (.goto 4, 3) := by decide +kernel
theorem d_M_put_33 : decode prog_13_method_33_code 33 = .ok (.iconst 0, 1) := by decide +kernel
theorem d_M_put_34 : decode prog_13_method_33_code 34 = .ok (.putfield 119, 3) := by decide +kernel
theorem d_M_put_37 : decode prog_13_method_33_code 37 = .ok (.aload_n 0, 1) := by decide +kernel
theorem d_M_put_38 : decode prog_13_method_33_code 38 = .ok (.getfield 119, 3) := by decide +kernel
theorem d_M_put_41 : decode prog_13_method_33_code 41 = .ok (.ifCond .ne 19, 3) := by decide +kernel
theorem d_M_put_44 : decode prog_13_method_33_code 44 = .ok (.aload_n 0, 1) := by decide +kernel
theorem d_M_put_45 : decode prog_13_method_33_code 45 = .ok (.iload_n 1, 1) := by decide +kernel
theorem d_M_put_46 : decode prog_13_method_33_code 46 = .ok (.iload_n 2, 1) := by decide +kernel
theorem d_M_put_47 : decode prog_13_method_33_code 47 = .ok (.iload_n 3, 1) := by decide +kernel
theorem d_M_put_48 : decode prog_13_method_33_code 48 = .ok (.iload 4, 2) := by decide +kernel
theorem d_M_put_50 : decode prog_13_method_33_code 50 = .ok (.invokevirtual 254, 3) := by decide +kernel
theorem d_M_put_53 : decode prog_13_method_33_code 53 = .ok (.ifCond .eq 7, 3) := by decide +kernel
theorem d_M_put_56 : decode prog_13_method_33_code 56 = .ok (.iconst 1, 1) := by decide +kernel
theorem d_M_put_57 : decode prog_13_method_33_code 57 = .ok (.goto 4, 3) := by decide +kernel
theorem d_M_put_60 : decode prog_13_method_33_code 60 = .ok (.iconst 0, 1) := by decide +kernel
theorem d_M_put_61 : decode prog_13_method_33_code 61 = .ok (.ireturn, 1) := by decide +kernel
def y_M_remove : MethodName := ⟨"WindowCacheModel", "remove", "(I)I"⟩
theorem y_M_remove_ok : y_M_remove.cls ≠ "java/lang/invoke/MethodHandle" ∧ y_M_remove.cls ≠ "java/lang/invoke/VarHandle" ∧ (parseMethodDescriptor y_M_remove.desc).map (fun d => d.parameters.length) = some 1 := by decide +kernel
def rm_M_remove : Room := { frames := 6, cells := 0, slots := 0, locals := 130 }
theorem d_M_remove_0 : decode prog_13_method_34_code 0 = .ok (.aload_n 0, 1) := by decide +kernel
theorem d_M_remove_1 : decode prog_13_method_34_code 1 = .ok (.iconst 0, 1) := by decide +kernel
theorem d_M_remove_2 : decode prog_13_method_34_code 2 = .ok (.putfield 119, 3) := by decide +kernel
theorem d_M_remove_5 : decode prog_13_method_34_code 5 = .ok (.iload_n 1, 1) := by decide +kernel
theorem d_M_remove_6 : decode prog_13_method_34_code 6 = .ok (.invokestatic 245, 3) := by decide +kernel
theorem d_M_remove_9 : decode prog_13_method_34_code 9 = .ok (.ifCond .eq 13, 3) := by decide +kernel
theorem d_M_remove_12 : decode prog_13_method_34_code 12 = .ok (.aload_n 0, 1) := by decide +kernel
theorem d_M_remove_13 : decode prog_13_method_34_code 13 = .ok (.getfield 7, 3) := by decide +kernel
theorem d_M_remove_16 : decode prog_13_method_34_code 16 = .ok (.iload_n 1, 1) := by decide +kernel
theorem d_M_remove_17 : decode prog_13_method_34_code 17 = .ok (.iaload, 1) := by decide +kernel
theorem d_M_remove_18 : decode prog_13_method_34_code 18 = .ok (.iconst (-1), 1) := by decide +kernel
theorem d_M_remove_19 : decode prog_13_method_34_code 19 = .ok (.if_icmp .ne 5, 3) := by decide +kernel
theorem d_M_remove_22 : decode prog_13_method_34_code 22 = .ok (.iconst (-1), 1) := by decide +kernel
theorem d_M_remove_23 : decode prog_13_method_34_code 23 = .ok (.ireturn, 1) := by decide +kernel
theorem d_M_remove_24 : decode prog_13_method_34_code 24 = .ok (.aload_n 0, 1) := by decide +kernel
theorem d_M_remove_25 : decode prog_13_method_34_code 25 = .ok (.getfield 7, 3) := by decide +kernel
theorem d_M_remove_28 : decode prog_13_method_34_code 28 = .ok (.iload_n 1, 1) := by decide +kernel
theorem d_M_remove_29 : decode prog_13_method_34_code 29 = .ok (.iaload, 1) := by decide +kernel
theorem d_M_remove_30 : decode prog_13_method_34_code 30 = .ok (.istore_n 2, 1) := by decide +kernel
theorem d_M_remove_31 : decode prog_13_method_34_code 31 = .ok (.aload_n 0, 1) := by decide +kernel
theorem d_M_remove_32 : decode prog_13_method_34_code 32 = .ok (.iload_n 2, 1) := by decide +kernel
theorem d_M_remove_33 : decode prog_13_method_34_code 33 = .ok (.invokevirtual 132, 3) := by decide +kernel
theorem d_M_remove_36 : decode prog_13_method_34_code 36 = .ok (.istore_n 3, 1) := by decide +kernel
theorem d_M_remove_37 : decode prog_13_method_34_code 37 = .ok (.iload_n 3, 1) := by decide +kernel
theorem d_M_remove_38 : decode prog_13_method_34_code 38 = .ok (.ifCond .eq 7, 3) := by decide +kernel
theorem d_M_remove_41 : decode prog_13_method_34_code 41 = .ok (.iconst (-1), 1) := by decide +kernel
theorem d_M_remove_42 : decode prog_13_method_34_code 42 = .ok (.goto 9, 3) := by decide +kernel
theorem d_M_remove_45 : decode prog_13_method_34_code 45 = .ok (.aload_n 0, 1) := by decide +kernel
theorem d_M_remove_46 : decode prog_13_method_34_code 46 = .ok (.getfield 25, 3) := by decide +kernel
theorem d_M_remove_49 : decode prog_13_method_34_code 49 = .ok (.iload_n 2, 1) := by decide +kernel
theorem d_M_remove_50 : decode prog_13_method_34_code 50 = .ok (.iaload, 1) := by decide +kernel
theorem d_M_remove_51 : decode prog_13_method_34_code 51 = .ok (.istore 4, 2) := by decide +kernel
theorem d_M_remove_53 : decode prog_13_method_34_code 53 = .ok (.aload_n 0, 1) := by decide +kernel
theorem d_M_remove_54 : decode prog_13_method_34_code 54 = .ok (.iload_n 2, 1) := by decide +kernel
theorem d_M_remove_55 : decode prog_13_method_34_code 55 = .ok (.iload_n 3, 1) := by decide +kernel
theorem d_M_remove_56 : decode prog_13_method_34_code 56 = .ok (.ifCond .eq 7, 3) := by decide +kernel
theorem d_M_remove_59 : decode prog_13_method_34_code 59 = .ok (.iconst 2, 1) := by decide +kernel
theorem d_M_remove_60 : decode prog_13_method_34_code 60 = .ok (.goto 4, 3) := by decide +kernel
theorem d_M_remove_63 : decode prog_13_method_34_code 63 = .ok (.iconst 0, 1) := by decide +kernel
theorem d_M_remove_64 : decode prog_13_method_34_code 64 = .ok (.invokevirtual 182, 3) := by decide +kernel
theorem d_M_remove_67 : decode prog_13_method_34_code 67 = .ok (.aload_n 0, 1) := by decide +kernel
theorem d_M_remove_68 : decode prog_13_method_34_code 68 = .ok (.iconst 2, 1) := by decide +kernel
theorem d_M_remove_69 : decode prog_13_method_34_code 69 = .ok (.iload_n 2, 1) := by decide +kernel
theorem d_M_remove_70 : decode prog_13_method_34_code 70 = .ok (.invokevirtual 251, 3) := by decide +kernel
theorem d_M_remove_73 : decode prog_13_method_34_code 73 = .ok (.iload 4, 2) := by decide +kernel
theorem d_M_remove_75 : decode prog_13_method_34_code 75 = .ok (.ireturn, 1) := by decide +kernel
def y_M_load : MethodName := ⟨"WindowCacheModel", "load", "(I)I"⟩
theorem y_M_load_ok : y_M_load.cls ≠ "java/lang/invoke/MethodHandle" ∧ y_M_load.cls ≠ "java/lang/invoke/VarHandle" ∧ (parseMethodDescriptor y_M_load.desc).map (fun d => d.parameters.length) = some 1 := by decide +kernel
def rm_M_load : Room := { frames := 4, cells := 0, slots := 0, locals := 90 }
theorem d_M_load_0 : decode prog_13_method_35_code 0 = .ok (.aload_n 0, 1) := by decide +kernel
theorem d_M_load_1 : decode prog_13_method_35_code 1 = .ok (.iload_n 1, 1) := by decide +kernel
theorem d_M_load_2 : decode prog_13_method_35_code 2 = .ok (.invokestatic 245, 3) := by decide +kernel
theorem d_M_load_5 : decode prog_13_method_35_code 5 = .ok (.ifCond .eq 7, 3) := by decide +kernel
theorem d_M_load_8 : decode prog_13_method_35_code 8 = .ok (.iconst 0, 1) := by decide +kernel
theorem d_M_load_9 : decode prog_13_method_35_code 9 = .ok (.goto 4, 3) := by decide +kernel
theorem d_M_load_12 : decode prog_13_method_35_code 12 = .ok (.iconst 1, 1) := by decide +kernel
theorem d_M_load_13 : decode prog_13_method_35_code 13 = .ok (.putfield 119, 3) := by decide +kernel
theorem d_M_load_16 : decode prog_13_method_35_code 16 = .ok (.aload_n 0, 1) := by decide +kernel
theorem d_M_load_17 : decode prog_13_method_35_code 17 = .ok (.getfield 119, 3) := by decide +kernel
theorem d_M_load_20 : decode prog_13_method_35_code 20 = .ok (.ifCond .le 5, 3) := by decide +kernel
theorem d_M_load_23 : decode prog_13_method_35_code 23 = .ok (.iconst 0, 1) := by decide +kernel
theorem d_M_load_24 : decode prog_13_method_35_code 24 = .ok (.ireturn, 1) := by decide +kernel
theorem d_M_load_25 : decode prog_13_method_35_code 25 = .ok (.aload_n 0, 1) := by decide +kernel
theorem d_M_load_26 : decode prog_13_method_35_code 26 = .ok (.iload_n 1, 1) := by decide +kernel
theorem d_M_load_27 : decode prog_13_method_35_code 27 = .ok (.invokevirtual 248, 3) := by decide +kernel
theorem d_M_load_30 : decode prog_13_method_35_code 30 = .ok (.istore_n 2, 1) := by decide +kernel
theorem d_M_load_31 : decode prog_13_method_35_code 31 = .ok (.iload_n 2, 1) := by decide +kernel
theorem d_M_load_32 : decode prog_13_method_35_code 32 = .ok (.iconst (-1), 1) := by decide +kernel
theorem d_M_load_33 : decode prog_13_method_35_code 33 = .ok (.if_icmp .eq 5, 3) := by decide +kernel
theorem d_M_load_36 : decode prog_13_method_35_code 36 = .ok (.iload_n 2, 1) := by decide +kernel
theorem d_M_load_37 : decode prog_13_method_35_code 37 = .ok (.ireturn, 1) := by decide +kernel
theorem d_M_load_38 : decode prog_13_method_35_code 38 = .ok (.aload_n 0, 1) := by decide +kernel
theorem d_M_load_39 : decode prog_13_method_35_code 39 = .ok (.aload_n 0, 1) := by decide +kernel
theorem d_M_load_40 : decode prog_13_method_35_code 40 = .ok (.getfield 13, 3) := by decide +kernel
theorem d_M_load_43 : decode prog_13_method_35_code 43 = .ok (.iload_n 1, 1) := by decide +kernel
theorem d_M_load_44 : decode prog_13_method_35_code 44 = .ok (.iaload, 1) := by decide +kernel
theorem d_M_load_45 : decode prog_13_method_35_code 45 = .ok (.ifCond .le 7, 3) := by decide +kernel
theorem d_M_load_48 : decode prog_13_method_35_code 48 = .ok (.iconst 2, 1) := by decide +kernel
theorem d_M_load_49 : decode prog_13_method_35_code 49 = .ok (.goto 4, 3) := by decide +kernel
theorem d_M_load_52 : decode prog_13_method_35_code 52 = .ok (.iconst 0, 1) := by decide +kernel
theorem d_M_load_53 : decode prog_13_method_35_code 53 = .ok (.putfield 119, 3) := by decide +kernel
theorem d_M_load_56 : decode prog_13_method_35_code 56 = .ok (.aload_n 0, 1) := by decide +kernel
theorem d_M_load_57 : decode prog_13_method_35_code 57 = .ok (.getfield 119, 3) := by decide +kernel
theorem d_M_load_60 : decode prog_13_method_35_code 60 = .ok (.ifCond .le 5, 3) := by decide +kernel
theorem d_M_load_63 : decode prog_13_method_35_code 63 = .ok (.iconst 0, 1) := by decide +kernel
theorem d_M_load_64 : decode prog_13_method_35_code 64 = .ok (.ireturn, 1) := by decide +kernel
theorem d_M_load_65 : decode prog_13_method_35_code 65 = .ok (.aload_n 0, 1) := by decide +kernel
theorem d_M_load_66 : decode prog_13_method_35_code 66 = .ok (.getfield 13, 3) := by decide +kernel
theorem d_M_load_69 : decode prog_13_method_35_code 69 = .ok (.iload_n 1, 1) := by decide +kernel
theorem d_M_load_70 : decode prog_13_method_35_code 70 = .ok (.iconst 1, 1) := by decide +kernel
theorem d_M_load_71 : decode prog_13_method_35_code 71 = .ok (.iastore, 1) := by decide +kernel
theorem d_M_load_72 : decode prog_13_method_35_code 72 = .ok (.bipush (-2), 2) := by decide +kernel
theorem d_M_load_74 : decode prog_13_method_35_code 74 = .ok (.ireturn, 1) := by decide +kernel
def y_M_refresh : MethodName := ⟨"WindowCacheModel", "refresh", "(I)Z"⟩
theorem y_M_refresh_ok : y_M_refresh.cls ≠ "java/lang/invoke/MethodHandle" ∧ y_M_refresh.cls ≠ "java/lang/invoke/VarHandle" ∧ (parseMethodDescriptor y_M_refresh.desc).map (fun d => d.parameters.length) = some 1 := by decide +kernel
def rm_M_refresh : Room := { frames := 3, cells := 0, slots := 0, locals := 67 }
theorem d_M_refresh_0 : decode prog_13_method_36_code 0 = .ok (.aload_n 0, 1) := by decide +kernel
theorem d_M_refresh_1 : decode prog_13_method_36_code 1 = .ok (.iconst 0, 1) := by decide +kernel
theorem d_M_refresh_2 : decode prog_13_method_36_code 2 = .ok (.putfield 119, 3) := by decide +kernel
theorem d_M_refresh_5 : decode prog_13_method_36_code 5 = .ok (.iload_n 1, 1) := by decide +kernel
theorem d_M_refresh_6 : decode prog_13_method_36_code 6 = .ok (.invokestatic 245, 3) := by decide +kernel
theorem d_M_refresh_9 : decode prog_13_method_36_code 9 = .ok (.ifCond .eq 21, 3) := by decide +kernel
theorem d_M_refresh_12 : decode prog_13_method_36_code 12 = .ok (.aload_n 0, 1) := by decide +kernel
theorem d_M_refresh_13 : decode prog_13_method_36_code 13 = .ok (.iload_n 1, 1) := by decide +kernel
theorem d_M_refresh_14 : decode prog_13_method_36_code 14 = .ok (.invokevirtual 233, 3) := by decide +kernel
theorem d_M_refresh_17 : decode prog_13_method_36_code 17 = .ok (.iconst (-1), 1) := by decide +kernel
theorem d_M_refresh_18 : decode prog_13_method_36_code 18 = .ok (.if_icmp .eq 12, 3) := by decide +kernel
theorem d_M_refresh_21 : decode prog_13_method_36_code 21 = .ok (.aload_n 0, 1) := by decide +kernel
theorem d_M_refresh_22 : decode prog_13_method_36_code 22 = .ok (.getfield 13, 3) := by decide +kernel
theorem d_M_refresh_25 : decode prog_13_method_36_code 25 = .ok (.iload_n 1, 1) := by decide +kernel
theorem d_M_refresh_26 : decode prog_13_method_36_code 26 = .ok (.iaload, 1) := by decide +kernel
theorem d_M_refresh_27 : decode prog_13_method_36_code 27 = .ok (.ifCond .le 5, 3) := by decide +kernel
theorem d_M_refresh_30 : decode prog_13_method_36_code 30 = .ok (.iconst 0, 1) := by decide +kernel
theorem d_M_refresh_31 : decode prog_13_method_36_code 31 = .ok (.ireturn, 1) := by decide +kernel
theorem d_M_refresh_32 : decode prog_13_method_36_code 32 = .ok (.aload_n 0, 1) := by decide +kernel
theorem d_M_refresh_33 : decode prog_13_method_36_code 33 = .ok (.getfield 13, 3) := by decide +kernel
theorem d_M_refresh_36 : decode prog_13_method_36_code 36 = .ok (.iload_n 1, 1) := by decide +kernel
theorem d_M_refresh_37 : decode prog_13_method_36_code 37 = .ok (.iconst 2, 1) := by decide +kernel
theorem d_M_refresh_38 : decode prog_13_method_36_code 38 = .ok (.iastore, 1) := by decide +kernel
theorem d_M_refresh_39 : decode prog_13_method_36_code 39 = .ok (.aload_n 0, 1) := by decide +kernel
theorem d_M_refresh_40 : decode prog_13_method_36_code 40 = .ok (.getfield 16, 3) := by decide +kernel
theorem d_M_refresh_43 : decode prog_13_method_36_code 43 = .ok (.iload_n 1, 1) := by decide +kernel
theorem d_M_refresh_44 : decode prog_13_method_36_code 44 = .ok (.aload_n 0, 1) := by decide +kernel
theorem d_M_refresh_45 : decode prog_13_method_36_code 45 = .ok (.getfield 7, 3) := by decide +kernel
theorem d_M_refresh_48 : decode prog_13_method_36_code 48 = .ok (.iload_n 1, 1) := by decide +kernel
theorem d_M_refresh_49 : decode prog_13_method_36_code 49 = .ok (.iaload, 1) := by decide +kernel
theorem d_M_refresh_50 : decode prog_13_method_36_code 50 = .ok (.iastore, 1) := by decide +kernel
theorem d_M_refresh_51 : decode prog_13_method_36_code 51 = .ok (.aload_n 0, 1) := by decide +kernel
theorem d_M_refresh_52 : decode prog_13_method_36_code 52 = .ok (.getfield 19, 3) := by decide +kernel
theorem d_M_refresh_55 : decode prog_13_method_36_code 55 = .ok (.iload_n 1, 1) := by decide +kernel
theorem d_M_refresh_56 : decode prog_13_method_36_code 56 = .ok (.aload_n 0, 1) := by decide +kernel
theorem d_M_refresh_57 : decode prog_13_method_36_code 57 = .ok (.getfield 37, 3) := by decide +kernel
theorem d_M_refresh_60 : decode prog_13_method_36_code 60 = .ok (.aload_n 0, 1) := by decide +kernel
theorem d_M_refresh_61 : decode prog_13_method_36_code 61 = .ok (.getfield 7, 3) := by decide +kernel
theorem d_M_refresh_64 : decode prog_13_method_36_code 64 = .ok (.iload_n 1, 1) := by decide +kernel
theorem d_M_refresh_65 : decode prog_13_method_36_code 65 = .ok (.iaload, 1) := by decide +kernel
theorem d_M_refresh_66 : decode prog_13_method_36_code 66 = .ok (.iaload, 1) := by decide +kernel
theorem d_M_refresh_67 : decode prog_13_method_36_code 67 = .ok (.iastore, 1) := by decide +kernel
theorem d_M_refresh_68 : decode prog_13_method_36_code 68 = .ok (.iconst 1, 1) := by decide +kernel
theorem d_M_refresh_69 : decode prog_13_method_36_code 69 = .ok (.ireturn, 1) := by decide +kernel
def y_M_finish : MethodName := ⟨"WindowCacheModel", "finish", "(III)Z"⟩
theorem y_M_finish_ok : y_M_finish.cls ≠ "java/lang/invoke/MethodHandle" ∧ y_M_finish.cls ≠ "java/lang/invoke/VarHandle" ∧ (parseMethodDescriptor y_M_finish.desc).map (fun d => d.parameters.length) = some 3 := by decide +kernel
def rm_M_finish : Room := { frames := 7, cells := 0, slots := 0, locals := 157 }
theorem d_M_finish_0 : decode prog_13_method_37_code 0 = .ok (.aload_n 0, 1) := by decide +kernel
theorem d_M_finish_1 : decode prog_13_method_37_code 1 = .ok (.iload_n 1, 1) := by decide +kernel
theorem d_M_finish_2 : decode prog_13_method_37_code 2 = .ok (.invokestatic 245, 3) := by decide +kernel
theorem d_M_finish_5 : decode prog_13_method_37_code 5 = .ok (.ifCond .eq 12, 3) := by decide +kernel
theorem d_M_finish_8 : decode prog_13_method_37_code 8 = .ok (.aload_n 0, 1) := by decide +kernel
theorem d_M_finish_9 : decode prog_13_method_37_code 9 = .ok (.getfield 13, 3) := by decide +kernel
theorem d_M_finish_12 : decode prog_13_method_37_code 12 = .ok (.iload_n 1, 1) := by decide +kernel
theorem d_M_finish_13 : decode prog_13_method_37_code 13 = .ok (.iaload, 1) := by decide +kernel
theorem d_M_finish_14 : decode prog_13_method_37_code 14 = .ok (.ifCond .ne 7, 3) := by decide +kernel
theorem d_M_finish_17 : decode prog_13_method_37_code 17 = .ok (.iconst 1, 1) := by decide +kernel
theorem d_M_finish_18 : decode prog_13_method_37_code 18 = .ok (.goto 24, 3) := by decide +kernel
theorem d_M_finish_21 : decode prog_13_method_37_code 21 = .ok (.iload_n 2, 1) := by decide +kernel
theorem d_M_finish_22 : decode prog_13_method_37_code 22 = .ok (.ifCond .lt 15, 3) := by decide +kernel
theorem d_M_finish_25 : decode prog_13_method_37_code 25 = .ok (.iload_n 3, 1) := by decide +kernel
theorem d_M_finish_26 : decode prog_13_method_37_code 26 = .ok (.iconst 1, 1) := by decide +kernel
theorem d_M_finish_27 : decode prog_13_method_37_code 27 = .ok (.if_icmp .lt 10, 3) := by decide +kernel
theorem d_M_finish_30 : decode prog_13_method_37_code 30 = .ok (.iload_n 3, 1) := by decide +kernel
theorem d_M_finish_31 : decode prog_13_method_37_code 31 = .ok (.sipush 1000, 3) := by decide +kernel
theorem d_M_finish_34 : decode prog_13_method_37_code 34 = .ok (.if_icmp .le 7, 3) := by decide +kernel
theorem d_M_finish_37 : decode prog_13_method_37_code 37 = .ok (.iconst 2, 1) := by decide +kernel
theorem d_M_finish_38 : decode prog_13_method_37_code 38 = .ok (.goto 4, 3) := by decide +kernel
theorem d_M_finish_41 : decode prog_13_method_37_code 41 = .ok (.iconst 0, 1) := by decide +kernel
theorem d_M_finish_42 : decode prog_13_method_37_code 42 = .ok (.putfield 119, 3) := by decide +kernel
theorem d_M_finish_45 : decode prog_13_method_37_code 45 = .ok (.aload_n 0, 1) := by decide +kernel
theorem d_M_finish_46 : decode prog_13_method_37_code 46 = .ok (.getfield 119, 3) := by decide +kernel
theorem d_M_finish_49 : decode prog_13_method_37_code 49 = .ok (.ifCond .le 5, 3) := by decide +kernel
theorem d_M_finish_52 : decode prog_13_method_37_code 52 = .ok (.iconst 0, 1) := by decide +kernel
theorem d_M_finish_53 : decode prog_13_method_37_code 53 = .ok (.ireturn, 1) := by decide +kernel
theorem d_M_finish_54 : decode prog_13_method_37_code 54 = .ok (.aload_n 0, 1) := by decide +kernel
theorem d_M_finish_55 : decode prog_13_method_37_code 55 = .ok (.getfield 13, 3) := by decide +kernel
theorem d_M_finish_58 : decode prog_13_method_37_code 58 = .ok (.iload_n 1, 1) := by decide +kernel
theorem d_M_finish_59 : decode prog_13_method_37_code 59 = .ok (.iaload, 1) := by decide +kernel
theorem d_M_finish_60 : decode prog_13_method_37_code 60 = .ok (.iconst 2, 1) := by decide +kernel
theorem d_M_finish_61 : decode prog_13_method_37_code 61 = .ok (.if_icmp .ne 7, 3) := by decide +kernel
theorem d_M_finish_64 : decode prog_13_method_37_code 64 = .ok (.iconst 1, 1) := by decide +kernel
theorem d_M_finish_65 : decode prog_13_method_37_code 65 = .ok (.goto 4, 3) := by decide +kernel
theorem d_M_finish_68 : decode prog_13_method_37_code 68 = .ok (.iconst 0, 1) := by decide +kernel
theorem d_M_finish_69 : decode prog_13_method_37_code 69 = .ok (.istore 4, 2) := by decide +kernel
theorem d_M_finish_71 : decode prog_13_method_37_code 71 = .ok (.aload_n 0, 1) := by decide +kernel
theorem d_M_finish_72 : decode prog_13_method_37_code 72 = .ok (.getfield 13, 3) := by decide +kernel
theorem d_M_finish_75 : decode prog_13_method_37_code 75 = .ok (.iload_n 1, 1) := by decide +kernel
theorem d_M_finish_76 : decode prog_13_method_37_code 76 = .ok (.iconst 0, 1) := by decide +kernel
theorem d_M_finish_77 : decode prog_13_method_37_code 77 = .ok (.iastore, 1) := by decide +kernel
theorem d_M_finish_78 : decode prog_13_method_37_code 78 = .ok (.aload_n 0, 1) := by decide +kernel
theorem d_M_finish_79 : decode prog_13_method_37_code 79 = .ok (.dup, 1) := by decide +kernel
theorem d_M_finish_80 : decode prog_13_method_37_code 80 = .ok (.getfield 258, 3) := by decide +kernel
theorem d_M_finish_83 : decode prog_13_method_37_code 83 = .ok (.iconst 1, 1) := by decide +kernel
theorem d_M_finish_84 : decode prog_13_method_37_code 84 = .ok (.iadd, 1) := by decide +kernel
theorem d_M_finish_85 : decode prog_13_method_37_code 85 = .ok (.putfield 258, 3) := by decide +kernel
theorem d_M_finish_88 : decode prog_13_method_37_code 88 = .ok (.aload_n 0, 1) := by decide +kernel
theorem d_M_finish_89 : decode prog_13_method_37_code 89 = .ok (.iload_n 1, 1) := by decide +kernel
theorem d_M_finish_90 : decode prog_13_method_37_code 90 = .ok (.invokevirtual 233, 3) := by decide +kernel
theorem d_M_finish_93 : decode prog_13_method_37_code 93 = .ok (.istore 5, 2) := by decide +kernel
theorem d_M_finish_95 : decode prog_13_method_37_code 95 = .ok (.iload 4, 2) := by decide +kernel
theorem d_M_finish_97 : decode prog_13_method_37_code 97 = .ok (.ifCond .eq 44, 3) := by decide +kernel
theorem d_M_finish_100 : decode prog_13_method_37_code 100 = .ok (.iload 5, 2) := by decide +kernel
theorem d_M_finish_102 : decode prog_13_method_37_code 102 = .ok (.iconst (-1), 1) := by decide +kernel
theorem d_M_finish_103 : decode prog_13_method_37_code 103 = .ok (.if_icmp .eq 34, 3) := by decide +kernel
theorem d_M_finish_106 : decode prog_13_method_37_code 106 = .ok (.iload 5, 2) := by decide +kernel
theorem d_M_finish_108 : decode prog_13_method_37_code 108 = .ok (.aload_n 0, 1) := by decide +kernel
theorem d_M_finish_109 : decode prog_13_method_37_code 109 = .ok (.getfield 16, 3) := by decide +kernel
theorem d_M_finish_112 : decode prog_13_method_37_code 112 = .ok (.iload_n 1, 1) := by decide +kernel
theorem d_M_finish_113 : decode prog_13_method_37_code 113 = .ok (.iaload, 1) := by decide +kernel
theorem d_M_finish_114 : decode prog_13_method_37_code 114 = .ok (.if_icmp .ne 23, 3) := by decide +kernel
theorem d_M_finish_117 : decode prog_13_method_37_code 117 = .ok (.aload_n 0, 1) := by decide +kernel
theorem d_M_finish_118 : decode prog_13_method_37_code 118 = .ok (.getfield 37, 3) := by decide +kernel
theorem d_M_finish_121 : decode prog_13_method_37_code 121 = .ok (.iload 5, 2) := by decide +kernel
theorem d_M_finish_123 : decode prog_13_method_37_code 123 = .ok (.iaload, 1) := by decide +kernel
theorem d_M_finish_124 : decode prog_13_method_37_code 124 = .ok (.aload_n 0, 1) := by decide +kernel
theorem d_M_finish_125 : decode prog_13_method_37_code 125 = .ok (.getfield 19, 3) := by decide +kernel
theorem d_M_finish_128 : decode prog_13_method_37_code 128 = .ok (.iload_n 1, 1) := by decide +kernel
theorem d_M_finish_129 : decode prog_13_method_37_code 129 = .ok (.iaload, 1) := by decide +kernel
theorem d_M_finish_130 : decode prog_13_method_37_code 130 = .ok (.if_icmp .ne 7, 3) := by decide +kernel
theorem d_M_finish_133 : decode prog_13_method_37_code 133 = .ok (.iconst 1, 1) := by decide +kernel
theorem d_M_finish_134 : decode prog_13_method_37_code 134 = .ok (.goto 18, 3) := by decide +kernel
theorem d_M_finish_137 : decode prog_13_method_37_code 137 = .ok (.iconst 0, 1) := by decide +kernel
theorem d_M_finish_138 : decode prog_13_method_37_code 138 = .ok (.goto 14, 3) := by decide +kernel
theorem d_M_finish_141 : decode prog_13_method_37_code 141 = .ok (.iload 5, 2) := by decide +kernel
theorem d_M_finish_143 : decode prog_13_method_37_code 143 = .ok (.iconst (-1), 1) := by decide +kernel
theorem d_M_finish_144 : decode prog_13_method_37_code 144 = .ok (.if_icmp .ne 7, 3) := by decide +kernel
theorem d_M_finish_147 : decode prog_13_method_37_code 147 = .ok (.iconst 1, 1) := by decide +kernel
theorem d_M_finish_148 : decode prog_13_method_37_code 148 = .ok (.goto 4, 3) := by decide +kernel
theorem d_M_finish_151 : decode prog_13_method_37_code 151 = .ok (.iconst 0, 1) := by decide +kernel
theorem d_M_finish_152 : decode prog_13_method_37_code 152 = .ok (.istore 6, 2) := by decide +kernel
theorem d_M_finish_154 : decode prog_13_method_37_code 154 = .ok (.iload 6, 2) := by decide +kernel
theorem d_M_finish_156 : decode prog_13_method_37_code 156 = .ok (.ifCond .eq 12, 3) := by decide +kernel
theorem d_M_finish_159 : decode prog_13_method_37_code 159 = .ok (.aload_n 0, 1) := by decide +kernel
theorem d_M_finish_160 : decode prog_13_method_37_code 160 = .ok (.iload_n 1, 1) := by decide +kernel
theorem d_M_finish_161 : decode prog_13_method_37_code 161 = .ok (.iload_n 2, 1) := by decide +kernel
theorem d_M_finish_162 : decode prog_13_method_37_code 162 = .ok (.iload_n 3, 1) := by decide +kernel
theorem d_M_finish_163 : decode prog_13_method_37_code 163 = .ok (.iconst 0, 1) := by decide +kernel
theorem d_M_finish_164 : decode prog_13_method_37_code 164 = .ok (.invokevirtual 254, 3) := by decide +kernel
theorem d_M_finish_167 : decode prog_13_method_37_code 167 = .ok (.pop, 1) := by decide +kernel
theorem d_M_finish_168 : decode prog_13_method_37_code 168 = .ok (.iload 6, 2) := by decide +kernel
theorem d_M_finish_170 : decode prog_13_method_37_code 170 = .ok (.ireturn, 1) := by decide +kernel
def y_M_fail : MethodName := ⟨"WindowCacheModel", "fail", "(I)V"⟩
theorem y_M_fail_ok : y_M_fail.cls ≠ "java/lang/invoke/MethodHandle" ∧ y_M_fail.cls ≠ "java/lang/invoke/VarHandle" ∧ (parseMethodDescriptor y_M_fail.desc).map (fun d => d.parameters.length) = some 1 := by decide +kernel
def rm_M_fail : Room := { frames := 1, cells := 0, slots := 0, locals := 20 }
theorem d_M_fail_0 : decode prog_13_method_38_code 0 = .ok (.aload_n 0, 1) := by decide +kernel
theorem d_M_fail_1 : decode prog_13_method_38_code 1 = .ok (.iload_n 1, 1) := by decide +kernel
theorem d_M_fail_2 : decode prog_13_method_38_code 2 = .ok (.invokestatic 245, 3) := by decide +kernel
theorem d_M_fail_5 : decode prog_13_method_38_code 5 = .ok (.ifCond .eq 12, 3) := by decide +kernel
theorem d_M_fail_8 : decode prog_13_method_38_code 8 = .ok (.aload_n 0, 1) := by decide +kernel
theorem d_M_fail_9 : decode prog_13_method_38_code 9 = .ok (.getfield 13, 3) := by decide +kernel
theorem d_M_fail_12 : decode prog_13_method_38_code 12 = .ok (.iload_n 1, 1) := by decide +kernel
theorem d_M_fail_13 : decode prog_13_method_38_code 13 = .ok (.iaload, 1) := by decide +kernel
theorem d_M_fail_14 : decode prog_13_method_38_code 14 = .ok (.ifCond .ne 7, 3) := by decide +kernel
theorem d_M_fail_17 : decode prog_13_method_38_code 17 = .ok (.iconst 1, 1) := by decide +kernel
theorem d_M_fail_18 : decode prog_13_method_38_code 18 = .ok (.goto 4, 3) := by decide +kernel
theorem d_M_fail_21 : decode prog_13_method_38_code 21 = .ok (.iconst 0, 1) := by decide +kernel
theorem d_M_fail_22 : decode prog_13_method_38_code 22 = .ok (.putfield 119, 3) := by decide +kernel
theorem d_M_fail_25 : decode prog_13_method_38_code 25 = .ok (.aload_n 0, 1) := by decide +kernel
theorem d_M_fail_26 : decode prog_13_method_38_code 26 = .ok (.getfield 119, 3) := by decide +kernel
theorem d_M_fail_29 : decode prog_13_method_38_code 29 = .ok (.ifCond .le 4, 3) := by decide +kernel
theorem d_M_fail_32 : decode prog_13_method_38_code 32 = .ok (.return_, 1) := by decide +kernel
theorem d_M_fail_33 : decode prog_13_method_38_code 33 = .ok (.aload_n 0, 1) := by decide +kernel
theorem d_M_fail_34 : decode prog_13_method_38_code 34 = .ok (.getfield 13, 3) := by decide +kernel
theorem d_M_fail_37 : decode prog_13_method_38_code 37 = .ok (.iload_n 1, 1) := by decide +kernel
theorem d_M_fail_38 : decode prog_13_method_38_code 38 = .ok (.iconst 0, 1) := by decide +kernel
theorem d_M_fail_39 : decode prog_13_method_38_code 39 = .ok (.iastore, 1) := by decide +kernel
theorem d_M_fail_40 : decode prog_13_method_38_code 40 = .ok (.aload_n 0, 1) := by decide +kernel
theorem d_M_fail_41 : decode prog_13_method_38_code 41 = .ok (.dup, 1) := by decide +kernel
theorem d_M_fail_42 : decode prog_13_method_38_code 42 = .ok (.getfield 261, 3) := by decide +kernel
theorem d_M_fail_45 : decode prog_13_method_38_code 45 = .ok (.iconst 1, 1) := by decide +kernel
theorem d_M_fail_46 : decode prog_13_method_38_code 46 = .ok (.iadd, 1) := by decide +kernel
theorem d_M_fail_47 : decode prog_13_method_38_code 47 = .ok (.putfield 261, 3) := by decide +kernel
theorem d_M_fail_50 : decode prog_13_method_38_code 50 = .ok (.return_, 1) := by decide +kernel
def y_M_advance : MethodName := ⟨"WindowCacheModel", "advance", "(I)J"⟩
theorem y_M_advance_ok : y_M_advance.cls ≠ "java/lang/invoke/MethodHandle" ∧ y_M_advance.cls ≠ "java/lang/invoke/VarHandle" ∧ (parseMethodDescriptor y_M_advance.desc).map (fun d => d.parameters.length) = some 1 := by decide +kernel
def rm_M_advance : Room := { frames := 0, cells := 0, slots := 0, locals := 0 }
theorem d_M_advance_0 : decode prog_13_method_39_code 0 = .ok (.aload_n 0, 1) := by decide +kernel
theorem d_M_advance_1 : decode prog_13_method_39_code 1 = .ok (.iconst 0, 1) := by decide +kernel
theorem d_M_advance_2 : decode prog_13_method_39_code 2 = .ok (.putfield 119, 3) := by decide +kernel
theorem d_M_advance_5 : decode prog_13_method_39_code 5 = .ok (.iload_n 1, 1) := by decide +kernel
theorem d_M_advance_6 : decode prog_13_method_39_code 6 = .ok (.ifCond .lt 17, 3) := by decide +kernel
theorem d_M_advance_9 : decode prog_13_method_39_code 9 = .ok (.aload_n 0, 1) := by decide +kernel
theorem d_M_advance_10 : decode prog_13_method_39_code 10 = .ok (.getfield 128, 3) := by decide +kernel
theorem d_M_advance_13 : decode prog_13_method_39_code 13 = .ok (.iload_n 1, 1) := by decide +kernel
theorem d_M_advance_14 : decode prog_13_method_39_code 14 = .ok (.i2l, 1) := by decide +kernel
theorem d_M_advance_15 : decode prog_13_method_39_code 15 = .ok (.ladd, 1) := by decide +kernel
theorem d_M_advance_16 : decode prog_13_method_39_code 16 = .ok (.ldc2_w 264, 3) := by decide +kernel
theorem d_M_advance_19 : decode prog_13_method_39_code 19 = .ok (.lcmp, 1) := by decide +kernel
theorem d_M_advance_20 : decode prog_13_method_39_code 20 = .ok (.ifCond .le 7, 3) := by decide +kernel
theorem d_M_advance_23 : decode prog_13_method_39_code 23 = .ok (.ldc2_w 266, 3) := by decide +kernel
theorem d_M_advance_26 : decode prog_13_method_39_code 26 = .ok (.lreturn, 1) := by decide +kernel
theorem d_M_advance_27 : decode prog_13_method_39_code 27 = .ok (.aload_n 0, 1) := by decide +kernel
theorem d_M_advance_28 : decode prog_13_method_39_code 28 = .ok (.dup, 1) := by decide +kernel
theorem d_M_advance_29 : decode prog_13_method_39_code 29 = .ok (.getfield 128, 3) := by decide +kernel
theorem d_M_advance_32 : decode prog_13_method_39_code 32 = .ok (.iload_n 1, 1) := by decide +kernel
theorem d_M_advance_33 : decode prog_13_method_39_code 33 = .ok (.i2l, 1) := by decide +kernel
theorem d_M_advance_34 : decode prog_13_method_39_code 34 = .ok (.ladd, 1) := by decide +kernel
theorem d_M_advance_35 : decode prog_13_method_39_code 35 = .ok (.putfield 128, 3) := by decide +kernel
theorem d_M_advance_38 : decode prog_13_method_39_code 38 = .ok (.aload_n 0, 1) := by decide +kernel
theorem d_M_advance_39 : decode prog_13_method_39_code 39 = .ok (.getfield 128, 3) := by decide +kernel
theorem d_M_advance_42 : decode prog_13_method_39_code 42 = .ok (.lreturn, 1) := by decide +kernel
def y_M_maintain : MethodName := ⟨"WindowCacheModel", "maintain", "()I"⟩
theorem y_M_maintain_ok : y_M_maintain.cls ≠ "java/lang/invoke/MethodHandle" ∧ y_M_maintain.cls ≠ "java/lang/invoke/VarHandle" ∧ (parseMethodDescriptor y_M_maintain.desc).map (fun d => d.parameters.length) = some 0 := by decide +kernel
def rm_M_maintain : Room := { frames := 5, cells := 0, slots := 0, locals := 108 }
theorem d_M_maintain_0 : decode prog_13_method_40_code 0 = .ok (.aload_n 0, 1) := by decide +kernel
theorem d_M_maintain_1 : decode prog_13_method_40_code 1 = .ok (.iconst 0, 1) := by decide +kernel
theorem d_M_maintain_2 : decode prog_13_method_40_code 2 = .ok (.putfield 119, 3) := by decide +kernel
theorem d_M_maintain_5 : decode prog_13_method_40_code 5 = .ok (.aload_n 0, 1) := by decide +kernel
theorem d_M_maintain_6 : decode prog_13_method_40_code 6 = .ok (.invokevirtual 172, 3) := by decide +kernel
theorem d_M_maintain_9 : decode prog_13_method_40_code 9 = .ok (.aload_n 0, 1) := by decide +kernel
theorem d_M_maintain_10 : decode prog_13_method_40_code 10 = .ok (.invokevirtual 191, 3) := by decide +kernel
theorem d_M_maintain_13 : decode prog_13_method_40_code 13 = .ok (.ireturn, 1) := by decide +kernel
def y_M_inMap : MethodName := ⟨"WindowCacheModel", "inMap", "(Z)I"⟩
theorem y_M_inMap_ok : y_M_inMap.cls ≠ "java/lang/invoke/MethodHandle" ∧ y_M_inMap.cls ≠ "java/lang/invoke/VarHandle" ∧ (parseMethodDescriptor y_M_inMap.desc).map (fun d => d.parameters.length) = some 1 := by decide +kernel
def rm_M_inMap : Room := { frames := 2, cells := 0, slots := 0, locals := 46 }
theorem d_M_inMap_0 : decode prog_13_method_41_code 0 = .ok (.iconst 0, 1) := by decide +kernel
theorem d_M_inMap_1 : decode prog_13_method_41_code 1 = .ok (.istore_n 2, 1) := by decide +kernel
theorem d_M_inMap_2 : decode prog_13_method_41_code 2 = .ok (.iconst 0, 1) := by decide +kernel
theorem d_M_inMap_3 : decode prog_13_method_41_code 3 = .ok (.istore_n 3, 1) := by decide +kernel
theorem d_M_inMap_4 : decode prog_13_method_41_code 4 = .ok (.iload_n 3, 1) := by decide +kernel
theorem d_M_inMap_5 : decode prog_13_method_41_code 5 = .ok (.sipush 1000, 3) := by decide +kernel
theorem d_M_inMap_8 : decode prog_13_method_41_code 8 = .ok (.if_icmp .ge 44, 3) := by decide +kernel
theorem d_M_inMap_11 : decode prog_13_method_41_code 11 = .ok (.iload_n 2, 1) := by decide +kernel
theorem d_M_inMap_12 : decode prog_13_method_41_code 12 = .ok (.aload_n 0, 1) := by decide +kernel
theorem d_M_inMap_13 : decode prog_13_method_41_code 13 = .ok (.getfield 7, 3) := by decide +kernel
theorem d_M_inMap_16 : decode prog_13_method_41_code 16 = .ok (.iload_n 3, 1) := by decide +kernel
theorem d_M_inMap_17 : decode prog_13_method_41_code 17 = .ok (.iaload, 1) := by decide +kernel
theorem d_M_inMap_18 : decode prog_13_method_41_code 18 = .ok (.iconst (-1), 1) := by decide +kernel
theorem d_M_inMap_19 : decode prog_13_method_41_code 19 = .ok (.if_icmp .eq 24, 3) := by decide +kernel
theorem d_M_inMap_22 : decode prog_13_method_41_code 22 = .ok (.iload_n 1, 1) := by decide +kernel
theorem d_M_inMap_23 : decode prog_13_method_41_code 23 = .ok (.ifCond .eq 16, 3) := by decide +kernel
theorem d_M_inMap_26 : decode prog_13_method_41_code 26 = .ok (.aload_n 0, 1) := by decide +kernel
theorem d_M_inMap_27 : decode prog_13_method_41_code 27 = .ok (.aload_n 0, 1) := by decide +kernel
theorem d_M_inMap_28 : decode prog_13_method_41_code 28 = .ok (.getfield 7, 3) := by decide +kernel
theorem d_M_inMap_31 : decode prog_13_method_41_code 31 = .ok (.iload_n 3, 1) := by decide +kernel
theorem d_M_inMap_32 : decode prog_13_method_41_code 32 = .ok (.iaload, 1) := by decide +kernel
theorem d_M_inMap_33 : decode prog_13_method_41_code 33 = .ok (.invokevirtual 132, 3) := by decide +kernel
theorem d_M_inMap_36 : decode prog_13_method_41_code 36 = .ok (.ifCond .eq 7, 3) := by decide +kernel
theorem d_M_inMap_39 : decode prog_13_method_41_code 39 = .ok (.iconst 1, 1) := by decide +kernel
theorem d_M_inMap_40 : decode prog_13_method_41_code 40 = .ok (.goto 4, 3) := by decide +kernel
theorem d_M_inMap_43 : decode prog_13_method_41_code 43 = .ok (.iconst 0, 1) := by decide +kernel
theorem d_M_inMap_44 : decode prog_13_method_41_code 44 = .ok (.iadd, 1) := by decide +kernel
theorem d_M_inMap_45 : decode prog_13_method_41_code 45 = .ok (.istore_n 2, 1) := by decide +kernel
theorem d_M_inMap_46 : decode prog_13_method_41_code 46 = .ok (.iinc 3 1, 3) := by decide +kernel
theorem d_M_inMap_49 : decode prog_13_method_41_code 49 = .ok (.goto (-45), 3) := by decide +kernel
theorem d_M_inMap_52 : decode prog_13_method_41_code 52 = .ok (.iload_n 2, 1) := by decide +kernel
theorem d_M_inMap_53 : decode prog_13_method_41_code 53 = .ok (.ireturn, 1) := by decide +kernel
def y_M_onWay : MethodName := ⟨"WindowCacheModel", "onWay", "()I"⟩
theorem y_M_onWay_ok : y_M_onWay.cls ≠ "java/lang/invoke/MethodHandle" ∧ y_M_onWay.cls ≠ "java/lang/invoke/VarHandle" ∧ (parseMethodDescriptor y_M_onWay.desc).map (fun d => d.parameters.length) = some 0 := by decide +kernel
def rm_M_onWay : Room := { frames := 0, cells := 0, slots := 0, locals := 0 }
theorem d_M_onWay_0 : decode prog_13_method_42_code 0 = .ok (.iconst 0, 1) := by decide +kernel
theorem d_M_onWay_1 : decode prog_13_method_42_code 1 = .ok (.istore_n 1, 1) := by decide +kernel
theorem d_M_onWay_2 : decode prog_13_method_42_code 2 = .ok (.iconst 0, 1) := by decide +kernel
theorem d_M_onWay_3 : decode prog_13_method_42_code 3 = .ok (.istore_n 2, 1) := by decide +kernel
theorem d_M_onWay_4 : decode prog_13_method_42_code 4 = .ok (.iload_n 2, 1) := by decide +kernel
theorem d_M_onWay_5 : decode prog_13_method_42_code 5 = .ok (.sipush 1000, 3) := by decide +kernel
theorem d_M_onWay_8 : decode prog_13_method_42_code 8 = .ok (.if_icmp .ge 26, 3) := by decide +kernel
theorem d_M_onWay_11 : decode prog_13_method_42_code 11 = .ok (.iload_n 1, 1) := by decide +kernel
theorem d_M_onWay_12 : decode prog_13_method_42_code 12 = .ok (.aload_n 0, 1) := by decide +kernel
theorem d_M_onWay_13 : decode prog_13_method_42_code 13 = .ok (.getfield 13, 3) := by decide +kernel
theorem d_M_onWay_16 : decode prog_13_method_42_code 16 = .ok (.iload_n 2, 1) := by decide +kernel
theorem d_M_onWay_17 : decode prog_13_method_42_code 17 = .ok (.iaload, 1) := by decide +kernel
theorem d_M_onWay_18 : decode prog_13_method_42_code 18 = .ok (.ifCond .le 7, 3) := by decide +kernel
theorem d_M_onWay_21 : decode prog_13_method_42_code 21 = .ok (.iconst 1, 1) := by decide +kernel
theorem d_M_onWay_22 : decode prog_13_method_42_code 22 = .ok (.goto 4, 3) := by decide +kernel
theorem d_M_onWay_25 : decode prog_13_method_42_code 25 = .ok (.iconst 0, 1) := by decide +kernel
theorem d_M_onWay_26 : decode prog_13_method_42_code 26 = .ok (.iadd, 1) := by decide +kernel
theorem d_M_onWay_27 : decode prog_13_method_42_code 27 = .ok (.istore_n 1, 1) := by decide +kernel
theorem d_M_onWay_28 : decode prog_13_method_42_code 28 = .ok (.iinc 2 1, 3) := by decide +kernel
theorem d_M_onWay_31 : decode prog_13_method_42_code 31 = .ok (.goto (-27), 3) := by decide +kernel
theorem d_M_onWay_34 : decode prog_13_method_42_code 34 = .ok (.iload_n 1, 1) := by decide +kernel
theorem d_M_onWay_35 : decode prog_13_method_42_code 35 = .ok (.ireturn, 1) := by decide +kernel
def y_M_count : MethodName := ⟨"WindowCacheModel", "count", "(I)I"⟩
theorem y_M_count_ok : y_M_count.cls ≠ "java/lang/invoke/MethodHandle" ∧ y_M_count.cls ≠ "java/lang/invoke/VarHandle" ∧ (parseMethodDescriptor y_M_count.desc).map (fun d => d.parameters.length) = some 1 := by decide +kernel
def rm_M_count : Room := { frames := 3, cells := 0, slots := 0, locals := 69 }
theorem d_M_count_0 : decode prog_13_method_43_code 0 = .ok (.aload_n 0, 1) := by decide +kernel
theorem d_M_count_1 : decode prog_13_method_43_code 1 = .ok (.iconst 0, 1) := by decide +kernel
theorem d_M_count_2 : decode prog_13_method_43_code 2 = .ok (.putfield 119, 3) := by decide +kernel
theorem d_M_count_5 : decode prog_13_method_43_code 5 = .ok (.iload_n 1, 1) := by decide +kernel
theorem d_M_count_6 : decode prog_13_method_43_code 6 = .ok (.tableswitch 190 0 17 #[86, 92, 98, 103, 109, 115, 121, 126, 131, 136, 141, 146, 151, 156, 170, 175, 180, 185], 86) := by decide +kernel
theorem d_M_count_92 : decode prog_13_method_43_code 92 = .ok (.aload_n 0, 1) := by decide +kernel
theorem d_M_count_93 : decode prog_13_method_43_code 93 = .ok (.iconst 0, 1) := by decide +kernel
theorem d_M_count_94 : decode prog_13_method_43_code 94 = .ok (.invokevirtual 268, 3) := by decide +kernel
theorem d_M_count_97 : decode prog_13_method_43_code 97 = .ok (.ireturn, 1) := by decide +kernel
theorem d_M_count_98 : decode prog_13_method_43_code 98 = .ok (.aload_n 0, 1) := by decide +kernel
theorem d_M_count_99 : decode prog_13_method_43_code 99 = .ok (.iconst 1, 1) := by decide +kernel
theorem d_M_count_100 : decode prog_13_method_43_code 100 = .ok (.invokevirtual 268, 3) := by decide +kernel
theorem d_M_count_103 : decode prog_13_method_43_code 103 = .ok (.ireturn, 1) := by decide +kernel
theorem d_M_count_104 : decode prog_13_method_43_code 104 = .ok (.aload_n 0, 1) := by decide +kernel
theorem d_M_count_105 : decode prog_13_method_43_code 105 = .ok (.invokevirtual 191, 3) := by decide +kernel
theorem d_M_count_108 : decode prog_13_method_43_code 108 = .ok (.ireturn, 1) := by decide +kernel
theorem d_M_count_109 : decode prog_13_method_43_code 109 = .ok (.aload_n 0, 1) := by decide +kernel
theorem d_M_count_110 : decode prog_13_method_43_code 110 = .ok (.iconst 1, 1) := by decide +kernel
theorem d_M_count_111 : decode prog_13_method_43_code 111 = .ok (.invokevirtual 146, 3) := by decide +kernel
theorem d_M_count_114 : decode prog_13_method_43_code 114 = .ok (.ireturn, 1) := by decide +kernel
theorem d_M_count_115 : decode prog_13_method_43_code 115 = .ok (.aload_n 0, 1) := by decide +kernel
theorem d_M_count_116 : decode prog_13_method_43_code 116 = .ok (.iconst 2, 1) := by decide +kernel
theorem d_M_count_117 : decode prog_13_method_43_code 117 = .ok (.invokevirtual 146, 3) := by decide +kernel
theorem d_M_count_120 : decode prog_13_method_43_code 120 = .ok (.ireturn, 1) := by decide +kernel
theorem d_M_count_121 : decode prog_13_method_43_code 121 = .ok (.aload_n 0, 1) := by decide +kernel
theorem d_M_count_122 : decode prog_13_method_43_code 122 = .ok (.iconst 3, 1) := by decide +kernel
theorem d_M_count_123 : decode prog_13_method_43_code 123 = .ok (.invokevirtual 146, 3) := by decide +kernel
theorem d_M_count_126 : decode prog_13_method_43_code 126 = .ok (.ireturn, 1) := by decide +kernel
theorem d_M_count_127 : decode prog_13_method_43_code 127 = .ok (.aload_n 0, 1) := by decide +kernel
theorem d_M_count_128 : decode prog_13_method_43_code 128 = .ok (.getfield 105, 3) := by decide +kernel
theorem d_M_count_131 : decode prog_13_method_43_code 131 = .ok (.ireturn, 1) := by decide +kernel
theorem d_M_count_132 : decode prog_13_method_43_code 132 = .ok (.aload_n 0, 1) := by decide +kernel
theorem d_M_count_133 : decode prog_13_method_43_code 133 = .ok (.getfield 239, 3) := by decide +kernel
theorem d_M_count_136 : decode prog_13_method_43_code 136 = .ok (.ireturn, 1) := by decide +kernel
theorem d_M_count_137 : decode prog_13_method_43_code 137 = .ok (.aload_n 0, 1) := by decide +kernel
theorem d_M_count_138 : decode prog_13_method_43_code 138 = .ok (.getfield 236, 3) := by decide +kernel
theorem d_M_count_141 : decode prog_13_method_43_code 141 = .ok (.ireturn, 1) := by decide +kernel
theorem d_M_count_142 : decode prog_13_method_43_code 142 = .ok (.aload_n 0, 1) := by decide +kernel
theorem d_M_count_143 : decode prog_13_method_43_code 143 = .ok (.getfield 258, 3) := by decide +kernel
theorem d_M_count_146 : decode prog_13_method_43_code 146 = .ok (.ireturn, 1) := by decide +kernel
theorem d_M_count_147 : decode prog_13_method_43_code 147 = .ok (.aload_n 0, 1) := by decide +kernel
theorem d_M_count_148 : decode prog_13_method_43_code 148 = .ok (.getfield 261, 3) := by decide +kernel
theorem d_M_count_151 : decode prog_13_method_43_code 151 = .ok (.ireturn, 1) := by decide +kernel
theorem d_M_count_152 : decode prog_13_method_43_code 152 = .ok (.aload_n 0, 1) := by decide +kernel
theorem d_M_count_153 : decode prog_13_method_43_code 153 = .ok (.getfield 185, 3) := by decide +kernel
theorem d_M_count_156 : decode prog_13_method_43_code 156 = .ok (.ireturn, 1) := by decide +kernel
theorem d_M_count_157 : decode prog_13_method_43_code 157 = .ok (.aload_n 0, 1) := by decide +kernel
theorem d_M_count_158 : decode prog_13_method_43_code 158 = .ok (.getfield 188, 3) := by decide +kernel
theorem d_M_count_161 : decode prog_13_method_43_code 161 = .ok (.ireturn, 1) := by decide +kernel
theorem d_M_count_162 : decode prog_13_method_43_code 162 = .ok (.aload_n 0, 1) := by decide +kernel
theorem d_M_count_163 : decode prog_13_method_43_code 163 = .ok (.getfield 60, 3) := by decide +kernel
theorem d_M_count_166 : decode prog_13_method_43_code 166 = .ok (.iconst 0, 1) := by decide +kernel
theorem d_M_count_167 : decode prog_13_method_43_code 167 = .ok (.iaload, 1) := by decide +kernel
theorem d_M_count_168 : decode prog_13_method_43_code 168 = .ok (.aload_n 0, 1) := by decide +kernel
theorem d_M_count_169 : decode prog_13_method_43_code 169 = .ok (.getfield 60, 3) := by decide +kernel
theorem d_M_count_172 : decode prog_13_method_43_code 172 = .ok (.iconst 1, 1) := by decide +kernel
theorem d_M_count_173 : decode prog_13_method_43_code 173 = .ok (.iaload, 1) := by decide +kernel
theorem d_M_count_174 : decode prog_13_method_43_code 174 = .ok (.iadd, 1) := by decide +kernel
theorem d_M_count_175 : decode prog_13_method_43_code 175 = .ok (.ireturn, 1) := by decide +kernel
theorem d_M_count_176 : decode prog_13_method_43_code 176 = .ok (.aload_n 0, 1) := by decide +kernel
theorem d_M_count_177 : decode prog_13_method_43_code 177 = .ok (.getfield 169, 3) := by decide +kernel
theorem d_M_count_180 : decode prog_13_method_43_code 180 = .ok (.ireturn, 1) := by decide +kernel
theorem d_M_count_181 : decode prog_13_method_43_code 181 = .ok (.aload_n 0, 1) := by decide +kernel
theorem d_M_count_182 : decode prog_13_method_43_code 182 = .ok (.getfield 140, 3) := by decide +kernel
theorem d_M_count_185 : decode prog_13_method_43_code 185 = .ok (.ireturn, 1) := by decide +kernel
theorem d_M_count_186 : decode prog_13_method_43_code 186 = .ok (.aload_n 0, 1) := by decide +kernel
theorem d_M_count_187 : decode prog_13_method_43_code 187 = .ok (.getfield 242, 3) := by decide +kernel
theorem d_M_count_190 : decode prog_13_method_43_code 190 = .ok (.ireturn, 1) := by decide +kernel
theorem d_M_count_191 : decode prog_13_method_43_code 191 = .ok (.aload_n 0, 1) := by decide +kernel
theorem d_M_count_192 : decode prog_13_method_43_code 192 = .ok (.invokevirtual 272, 3) := by decide +kernel
theorem d_M_count_195 : decode prog_13_method_43_code 195 = .ok (.ireturn, 1) := by decide +kernel
theorem d_M_count_196 : decode prog_13_method_43_code 196 = .ok (.iconst (-1), 1) := by decide +kernel
theorem d_M_count_197 : decode prog_13_method_43_code 197 = .ok (.ireturn, 1) := by decide +kernel
def y_M_often : MethodName := ⟨"WindowCacheModel", "often", "(I)I"⟩
theorem y_M_often_ok : y_M_often.cls ≠ "java/lang/invoke/MethodHandle" ∧ y_M_often.cls ≠ "java/lang/invoke/VarHandle" ∧ (parseMethodDescriptor y_M_often.desc).map (fun d => d.parameters.length) = some 1 := by decide +kernel
def rm_M_often : Room := { frames := 2, cells := 0, slots := 0, locals := 45 }
theorem d_M_often_0 : decode prog_13_method_44_code 0 = .ok (.aload_n 0, 1) := by decide +kernel
theorem d_M_often_1 : decode prog_13_method_44_code 1 = .ok (.iconst 0, 1) := by decide +kernel
theorem d_M_often_2 : decode prog_13_method_44_code 2 = .ok (.putfield 119, 3) := by decide +kernel
theorem d_M_often_5 : decode prog_13_method_44_code 5 = .ok (.iload_n 1, 1) := by decide +kernel
theorem d_M_often_6 : decode prog_13_method_44_code 6 = .ok (.invokestatic 245, 3) := by decide +kernel
theorem d_M_often_9 : decode prog_13_method_44_code 9 = .ok (.ifCond .eq 11, 3) := by decide +kernel
theorem d_M_often_12 : decode prog_13_method_44_code 12 = .ok (.aload_n 0, 1) := by decide +kernel
theorem d_M_often_13 : decode prog_13_method_44_code 13 = .ok (.iload_n 1, 1) := by decide +kernel
theorem d_M_often_14 : decode prog_13_method_44_code 14 = .ok (.invokevirtual 197, 3) := by decide +kernel
theorem d_M_often_17 : decode prog_13_method_44_code 17 = .ok (.goto 4, 3) := by decide +kernel
theorem d_M_often_20 : decode prog_13_method_44_code 20 = .ok (.iconst (-1), 1) := by decide +kernel
theorem d_M_often_21 : decode prog_13_method_44_code 21 = .ok (.ireturn, 1) := by decide +kernel
def y_M_at : MethodName := ⟨"WindowCacheModel", "at", "(II)I"⟩
theorem y_M_at_ok : y_M_at.cls ≠ "java/lang/invoke/MethodHandle" ∧ y_M_at.cls ≠ "java/lang/invoke/VarHandle" ∧ (parseMethodDescriptor y_M_at.desc).map (fun d => d.parameters.length) = some 2 := by decide +kernel
def rm_M_at : Room := { frames := 0, cells := 0, slots := 0, locals := 0 }
theorem d_M_at_0 : decode prog_13_method_45_code 0 = .ok (.aload_n 0, 1) := by decide +kernel
theorem d_M_at_1 : decode prog_13_method_45_code 1 = .ok (.iconst 0, 1) := by decide +kernel
theorem d_M_at_2 : decode prog_13_method_45_code 2 = .ok (.putfield 119, 3) := by decide +kernel
theorem d_M_at_5 : decode prog_13_method_45_code 5 = .ok (.iload_n 1, 1) := by decide +kernel
theorem d_M_at_6 : decode prog_13_method_45_code 6 = .ok (.ifCond .lt 12, 3) := by decide +kernel
theorem d_M_at_9 : decode prog_13_method_45_code 9 = .ok (.iload_n 1, 1) := by decide +kernel
theorem d_M_at_10 : decode prog_13_method_45_code 10 = .ok (.iconst 2, 1) := by decide +kernel
theorem d_M_at_11 : decode prog_13_method_45_code 11 = .ok (.if_icmp .gt 7, 3) := by decide +kernel
theorem d_M_at_14 : decode prog_13_method_45_code 14 = .ok (.iload_n 2, 1) := by decide +kernel
theorem d_M_at_15 : decode prog_13_method_45_code 15 = .ok (.ifCond .ge 5, 3) := by decide +kernel
theorem d_M_at_18 : decode prog_13_method_45_code 18 = .ok (.iconst (-1), 1) := by decide +kernel
theorem d_M_at_19 : decode prog_13_method_45_code 19 = .ok (.ireturn, 1) := by decide +kernel
theorem d_M_at_20 : decode prog_13_method_45_code 20 = .ok (.iconst 0, 1) := by decide +kernel
theorem d_M_at_21 : decode prog_13_method_45_code 21 = .ok (.istore_n 3, 1) := by decide +kernel
theorem d_M_at_22 : decode prog_13_method_45_code 22 = .ok (.iload_n 3, 1) := by decide +kernel
theorem d_M_at_23 : decode prog_13_method_45_code 23 = .ok (.aload_n 0, 1) := by decide +kernel
theorem d_M_at_24 : decode prog_13_method_45_code 24 = .ok (.getfield 143, 3) := by decide +kernel
theorem d_M_at_27 : decode prog_13_method_45_code 27 = .ok (.if_icmp .ge 98, 3) := by decide +kernel
theorem d_M_at_30 : decode prog_13_method_45_code 30 = .ok (.aload_n 0, 1) := by decide +kernel
theorem d_M_at_31 : decode prog_13_method_45_code 31 = .ok (.getfield 34, 3) := by decide +kernel
theorem d_M_at_34 : decode prog_13_method_45_code 34 = .ok (.iload_n 3, 1) := by decide +kernel
theorem d_M_at_35 : decode prog_13_method_45_code 35 = .ok (.iaload, 1) := by decide +kernel
theorem d_M_at_36 : decode prog_13_method_45_code 36 = .ok (.iload_n 1, 1) := by decide +kernel
theorem d_M_at_37 : decode prog_13_method_45_code 37 = .ok (.iconst 1, 1) := by decide +kernel
theorem d_M_at_38 : decode prog_13_method_45_code 38 = .ok (.iadd, 1) := by decide +kernel
theorem d_M_at_39 : decode prog_13_method_45_code 39 = .ok (.if_icmp .eq 6, 3) := by decide +kernel
theorem d_M_at_42 : decode prog_13_method_45_code 42 = .ok (.goto 77, 3) := by decide +kernel
theorem d_M_at_45 : decode prog_13_method_45_code 45 = .ok (.iconst 0, 1) := by decide +kernel
theorem d_M_at_46 : decode prog_13_method_45_code 46 = .ok (.istore 4, 2) := by decide +kernel
theorem d_M_at_48 : decode prog_13_method_45_code 48 = .ok (.iconst 0, 1) := by decide +kernel
theorem d_M_at_49 : decode prog_13_method_45_code 49 = .ok (.istore 5, 2) := by decide +kernel
theorem d_M_at_51 : decode prog_13_method_45_code 51 = .ok (.iload 5, 2) := by decide +kernel
theorem d_M_at_53 : decode prog_13_method_45_code 53 = .ok (.aload_n 0, 1) := by decide +kernel
theorem d_M_at_54 : decode prog_13_method_45_code 54 = .ok (.getfield 143, 3) := by decide +kernel
theorem d_M_at_57 : decode prog_13_method_45_code 57 = .ok (.if_icmp .ge 49, 3) := by decide +kernel
theorem d_M_at_60 : decode prog_13_method_45_code 60 = .ok (.iload 4, 2) := by decide +kernel
theorem d_M_at_62 : decode prog_13_method_45_code 62 = .ok (.aload_n 0, 1) := by decide +kernel
theorem d_M_at_63 : decode prog_13_method_45_code 63 = .ok (.getfield 34, 3) := by decide +kernel
theorem d_M_at_66 : decode prog_13_method_45_code 66 = .ok (.iload 5, 2) := by decide +kernel
theorem d_M_at_68 : decode prog_13_method_45_code 68 = .ok (.iaload, 1) := by decide +kernel
theorem d_M_at_69 : decode prog_13_method_45_code 69 = .ok (.iload_n 1, 1) := by decide +kernel
theorem d_M_at_70 : decode prog_13_method_45_code 70 = .ok (.iconst 1, 1) := by decide +kernel
theorem d_M_at_71 : decode prog_13_method_45_code 71 = .ok (.iadd, 1) := by decide +kernel
theorem d_M_at_72 : decode prog_13_method_45_code 72 = .ok (.if_icmp .ne 24, 3) := by decide +kernel
theorem d_M_at_75 : decode prog_13_method_45_code 75 = .ok (.aload_n 0, 1) := by decide +kernel
theorem d_M_at_76 : decode prog_13_method_45_code 76 = .ok (.getfield 47, 3) := by decide +kernel
theorem d_M_at_79 : decode prog_13_method_45_code 79 = .ok (.iload 5, 2) := by decide +kernel
theorem d_M_at_81 : decode prog_13_method_45_code 81 = .ok (.laload, 1) := by decide +kernel
theorem d_M_at_82 : decode prog_13_method_45_code 82 = .ok (.aload_n 0, 1) := by decide +kernel
theorem d_M_at_83 : decode prog_13_method_45_code 83 = .ok (.getfield 47, 3) := by decide +kernel
theorem d_M_at_86 : decode prog_13_method_45_code 86 = .ok (.iload_n 3, 1) := by decide +kernel
theorem d_M_at_87 : decode prog_13_method_45_code 87 = .ok (.laload, 1) := by decide +kernel
theorem d_M_at_88 : decode prog_13_method_45_code 88 = .ok (.lcmp, 1) := by decide +kernel
theorem d_M_at_89 : decode prog_13_method_45_code 89 = .ok (.ifCond .ge 7, 3) := by decide +kernel
theorem d_M_at_92 : decode prog_13_method_45_code 92 = .ok (.iconst 1, 1) := by decide +kernel
theorem d_M_at_93 : decode prog_13_method_45_code 93 = .ok (.goto 4, 3) := by decide +kernel
theorem d_M_at_96 : decode prog_13_method_45_code 96 = .ok (.iconst 0, 1) := by decide +kernel
theorem d_M_at_97 : decode prog_13_method_45_code 97 = .ok (.iadd, 1) := by decide +kernel
theorem d_M_at_98 : decode prog_13_method_45_code 98 = .ok (.istore 4, 2) := by decide +kernel
theorem d_M_at_100 : decode prog_13_method_45_code 100 = .ok (.iinc 5 1, 3) := by decide +kernel
theorem d_M_at_103 : decode prog_13_method_45_code 103 = .ok (.goto (-52), 3) := by decide +kernel
theorem d_M_at_106 : decode prog_13_method_45_code 106 = .ok (.iload 4, 2) := by decide +kernel
theorem d_M_at_108 : decode prog_13_method_45_code 108 = .ok (.iload_n 2, 1) := by decide +kernel
theorem d_M_at_109 : decode prog_13_method_45_code 109 = .ok (.if_icmp .ne 10, 3) := by decide +kernel
theorem d_M_at_112 : decode prog_13_method_45_code 112 = .ok (.aload_n 0, 1) := by decide +kernel
theorem d_M_at_113 : decode prog_13_method_45_code 113 = .ok (.getfield 22, 3) := by decide +kernel
theorem d_M_at_116 : decode prog_13_method_45_code 116 = .ok (.iload_n 3, 1) := by decide +kernel
theorem d_M_at_117 : decode prog_13_method_45_code 117 = .ok (.iaload, 1) := by decide +kernel
theorem d_M_at_118 : decode prog_13_method_45_code 118 = .ok (.ireturn, 1) := by decide +kernel
theorem d_M_at_119 : decode prog_13_method_45_code 119 = .ok (.iinc 3 1, 3) := by decide +kernel
theorem d_M_at_122 : decode prog_13_method_45_code 122 = .ok (.goto (-100), 3) := by decide +kernel
theorem d_M_at_125 : decode prog_13_method_45_code 125 = .ok (.iconst (-1), 1) := by decide +kernel
theorem d_M_at_126 : decode prog_13_method_45_code 126 = .ok (.ireturn, 1) := by decide +kernel
def y_M_listened : MethodName := ⟨"WindowCacheModel", "listened", "(II)I"⟩
theorem y_M_listened_ok : y_M_listened.cls ≠ "java/lang/invoke/MethodHandle" ∧ y_M_listened.cls ≠ "java/lang/invoke/VarHandle" ∧ (parseMethodDescriptor y_M_listened.desc).map (fun d => d.parameters.length) = some 2 := by decide +kernel
def rm_M_listened : Room := { frames := 0, cells := 0, slots := 0, locals := 0 }
theorem d_M_listened_0 : decode prog_13_method_46_code 0 = .ok (.aload_n 0, 1) := by decide +kernel
theorem d_M_listened_1 : decode prog_13_method_46_code 1 = .ok (.iconst 0, 1) := by decide +kernel
theorem d_M_listened_2 : decode prog_13_method_46_code 2 = .ok (.putfield 119, 3) := by decide +kernel
theorem d_M_listened_5 : decode prog_13_method_46_code 5 = .ok (.iload_n 1, 1) := by decide +kernel
theorem d_M_listened_6 : decode prog_13_method_46_code 6 = .ok (.ifCond .lt 11, 3) := by decide +kernel
theorem d_M_listened_9 : decode prog_13_method_46_code 9 = .ok (.iload_n 1, 1) := by decide +kernel
theorem d_M_listened_10 : decode prog_13_method_46_code 10 = .ok (.aload_n 0, 1) := by decide +kernel
theorem d_M_listened_11 : decode prog_13_method_46_code 11 = .ok (.getfield 163, 3) := by decide +kernel
theorem d_M_listened_14 : decode prog_13_method_46_code 14 = .ok (.if_icmp .lt 5, 3) := by decide +kernel
theorem d_M_listened_17 : decode prog_13_method_46_code 17 = .ok (.iconst (-1), 1) := by decide +kernel
theorem d_M_listened_18 : decode prog_13_method_46_code 18 = .ok (.ireturn, 1) := by decide +kernel
theorem d_M_listened_19 : decode prog_13_method_46_code 19 = .ok (.iload_n 2, 1) := by decide +kernel
theorem d_M_listened_20 : decode prog_13_method_46_code 20 = .ok (.tableswitch 49 0 2 #[28, 35, 42], 28) := by decide +kernel
theorem d_M_listened_48 : decode prog_13_method_46_code 48 = .ok (.aload_n 0, 1) := by decide +kernel
theorem d_M_listened_49 : decode prog_13_method_46_code 49 = .ok (.getfield 84, 3) := by decide +kernel
theorem d_M_listened_52 : decode prog_13_method_46_code 52 = .ok (.iload_n 1, 1) := by decide +kernel
theorem d_M_listened_53 : decode prog_13_method_46_code 53 = .ok (.iaload, 1) := by decide +kernel
theorem d_M_listened_54 : decode prog_13_method_46_code 54 = .ok (.ireturn, 1) := by decide +kernel
theorem d_M_listened_55 : decode prog_13_method_46_code 55 = .ok (.aload_n 0, 1) := by decide +kernel
theorem d_M_listened_56 : decode prog_13_method_46_code 56 = .ok (.getfield 87, 3) := by decide +kernel
theorem d_M_listened_59 : decode prog_13_method_46_code 59 = .ok (.iload_n 1, 1) := by decide +kernel
theorem d_M_listened_60 : decode prog_13_method_46_code 60 = .ok (.iaload, 1) := by decide +kernel
theorem d_M_listened_61 : decode prog_13_method_46_code 61 = .ok (.ireturn, 1) := by decide +kernel
theorem d_M_listened_62 : decode prog_13_method_46_code 62 = .ok (.aload_n 0, 1) := by decide +kernel
theorem d_M_listened_63 : decode prog_13_method_46_code 63 = .ok (.getfield 90, 3) := by decide +kernel
theorem d_M_listened_66 : decode prog_13_method_46_code 66 = .ok (.iload_n 1, 1) := by decide +kernel
theorem d_M_listened_67 : decode prog_13_method_46_code 67 = .ok (.iaload, 1) := by decide +kernel
theorem d_M_listened_68 : decode prog_13_method_46_code 68 = .ok (.ireturn, 1) := by decide +kernel
theorem d_M_listened_69 : decode prog_13_method_46_code 69 = .ok (.iconst (-1), 1) := by decide +kernel
theorem d_M_listened_70 : decode prog_13_method_46_code 70 = .ok (.ireturn, 1) := by decide +kernel
