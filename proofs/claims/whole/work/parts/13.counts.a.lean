def y_Co_init : MethodName := ⟨"WindowCache$Counts", "<init>", "(I)V"⟩
theorem y_Co_init_ok : y_Co_init.cls ≠ "java/lang/invoke/MethodHandle" ∧ y_Co_init.cls ≠ "java/lang/invoke/VarHandle" ∧ (parseMethodDescriptor y_Co_init.desc).map (fun d => d.parameters.length) = some 1 := by decide +kernel
def rm_Co_init : Room := { frames := 1, cells := 1, slots := 4096, locals := 24 }
theorem d_Co_init_0 : decode prog_3_method_1_code 0 = .ok (.aload_n 0, 1) := by decide +kernel
theorem d_Co_init_1 : decode prog_3_method_1_code 1 = .ok (.invokespecial 1, 3) := by decide +kernel
theorem d_Co_init_4 : decode prog_3_method_1_code 4 = .ok (.bipush 8, 2) := by decide +kernel
theorem d_Co_init_6 : decode prog_3_method_1_code 6 = .ok (.istore_n 2, 1) := by decide +kernel
theorem d_Co_init_7 : decode prog_3_method_1_code 7 = .ok (.iload_n 2, 1) := by decide +kernel
theorem d_Co_init_8 : decode prog_3_method_1_code 8 = .ok (.iload_n 1, 1) := by decide +kernel
theorem d_Co_init_9 : decode prog_3_method_1_code 9 = .ok (.if_icmp .ge 17, 3) := by decide +kernel
theorem d_Co_init_12 : decode prog_3_method_1_code 12 = .ok (.iload_n 2, 1) := by decide +kernel
theorem d_Co_init_13 : decode prog_3_method_1_code 13 = .ok (.sipush 8192, 3) := by decide +kernel
theorem d_Co_init_16 : decode prog_3_method_1_code 16 = .ok (.if_icmp .ge 10, 3) := by decide +kernel
theorem d_Co_init_19 : decode prog_3_method_1_code 19 = .ok (.iload_n 2, 1) := by decide +kernel
theorem d_Co_init_20 : decode prog_3_method_1_code 20 = .ok (.iconst 2, 1) := by decide +kernel
theorem d_Co_init_21 : decode prog_3_method_1_code 21 = .ok (.imul, 1) := by decide +kernel
theorem d_Co_init_22 : decode prog_3_method_1_code 22 = .ok (.istore_n 2, 1) := by decide +kernel
theorem d_Co_init_23 : decode prog_3_method_1_code 23 = .ok (.goto (-16), 3) := by decide +kernel
theorem d_Co_init_26 : decode prog_3_method_1_code 26 = .ok (.aload_n 0, 1) := by decide +kernel
theorem d_Co_init_27 : decode prog_3_method_1_code 27 = .ok (.iload_n 2, 1) := by decide +kernel
theorem d_Co_init_28 : decode prog_3_method_1_code 28 = .ok (.putfield 9, 3) := by decide +kernel
theorem d_Co_init_31 : decode prog_3_method_1_code 31 = .ok (.aload_n 0, 1) := by decide +kernel
theorem d_Co_init_32 : decode prog_3_method_1_code 32 = .ok (.iconst 4, 1) := by decide +kernel
theorem d_Co_init_33 : decode prog_3_method_1_code 33 = .ok (.iload_n 2, 1) := by decide +kernel
theorem d_Co_init_34 : decode prog_3_method_1_code 34 = .ok (.imul, 1) := by decide +kernel
theorem d_Co_init_35 : decode prog_3_method_1_code 35 = .ok (.bipush 8, 2) := by decide +kernel
theorem d_Co_init_37 : decode prog_3_method_1_code 37 = .ok (.idiv, 1) := by decide +kernel
theorem d_Co_init_38 : decode prog_3_method_1_code 38 = .ok (.newarray .int, 2) := by decide +kernel
theorem d_Co_init_40 : decode prog_3_method_1_code 40 = .ok (.putfield 13, 3) := by decide +kernel
theorem d_Co_init_43 : decode prog_3_method_1_code 43 = .ok (.return_, 1) := by decide +kernel
def y_Co_placeOf : MethodName := ⟨"WindowCache$Counts", "placeOf", "(II)I"⟩
theorem y_Co_placeOf_ok : y_Co_placeOf.cls ≠ "java/lang/invoke/MethodHandle" ∧ y_Co_placeOf.cls ≠ "java/lang/invoke/VarHandle" ∧ (parseMethodDescriptor y_Co_placeOf.desc).map (fun d => d.parameters.length) = some 2 := by decide +kernel
def rm_Co_placeOf : Room := { frames := 0, cells := 0, slots := 0, locals := 0 }
theorem d_Co_placeOf_0 : decode prog_3_method_4_code 0 = .ok (.iload_n 1, 1) := by decide +kernel
theorem d_Co_placeOf_1 : decode prog_3_method_4_code 1 = .ok (.aload_n 0, 1) := by decide +kernel
theorem d_Co_placeOf_2 : decode prog_3_method_4_code 2 = .ok (.getfield 9, 3) := by decide +kernel
theorem d_Co_placeOf_5 : decode prog_3_method_4_code 5 = .ok (.imul, 1) := by decide +kernel
theorem d_Co_placeOf_6 : decode prog_3_method_4_code 6 = .ok (.iload_n 2, 1) := by decide +kernel
theorem d_Co_placeOf_7 : decode prog_3_method_4_code 7 = .ok (.iconst 1, 1) := by decide +kernel
theorem d_Co_placeOf_8 : decode prog_3_method_4_code 8 = .ok (.iadd, 1) := by decide +kernel
theorem d_Co_placeOf_9 : decode prog_3_method_4_code 9 = .ok (.getstatic 32, 3) := by decide +kernel
theorem d_Co_placeOf_12 : decode prog_3_method_4_code 12 = .ok (.iload_n 1, 1) := by decide +kernel
theorem d_Co_placeOf_13 : decode prog_3_method_4_code 13 = .ok (.iaload, 1) := by decide +kernel
theorem d_Co_placeOf_14 : decode prog_3_method_4_code 14 = .ok (.imul, 1) := by decide +kernel
theorem d_Co_placeOf_15 : decode prog_3_method_4_code 15 = .ok (.bipush 7, 2) := by decide +kernel
theorem d_Co_placeOf_17 : decode prog_3_method_4_code 17 = .ok (.iushr, 1) := by decide +kernel
theorem d_Co_placeOf_18 : decode prog_3_method_4_code 18 = .ok (.aload_n 0, 1) := by decide +kernel
theorem d_Co_placeOf_19 : decode prog_3_method_4_code 19 = .ok (.getfield 9, 3) := by decide +kernel
theorem d_Co_placeOf_22 : decode prog_3_method_4_code 22 = .ok (.iconst 1, 1) := by decide +kernel
theorem d_Co_placeOf_23 : decode prog_3_method_4_code 23 = .ok (.isub, 1) := by decide +kernel
theorem d_Co_placeOf_24 : decode prog_3_method_4_code 24 = .ok (.iand, 1) := by decide +kernel
theorem d_Co_placeOf_25 : decode prog_3_method_4_code 25 = .ok (.iadd, 1) := by decide +kernel
theorem d_Co_placeOf_26 : decode prog_3_method_4_code 26 = .ok (.ireturn, 1) := by decide +kernel
def y_Co_halve : MethodName := ⟨"WindowCache$Counts", "halve", "()V"⟩
theorem y_Co_halve_ok : y_Co_halve.cls ≠ "java/lang/invoke/MethodHandle" ∧ y_Co_halve.cls ≠ "java/lang/invoke/VarHandle" ∧ (parseMethodDescriptor y_Co_halve.desc).map (fun d => d.parameters.length) = some 0 := by decide +kernel
def rm_Co_halve : Room := { frames := 1, cells := 0, slots := 0, locals := 20 }
theorem d_Co_halve_0 : decode prog_3_method_5_code 0 = .ok (.iconst 0, 1) := by decide +kernel
theorem d_Co_halve_1 : decode prog_3_method_5_code 1 = .ok (.istore_n 1, 1) := by decide +kernel
theorem d_Co_halve_2 : decode prog_3_method_5_code 2 = .ok (.iconst 0, 1) := by decide +kernel
theorem d_Co_halve_3 : decode prog_3_method_5_code 3 = .ok (.istore_n 2, 1) := by decide +kernel
theorem d_Co_halve_4 : decode prog_3_method_5_code 4 = .ok (.iload_n 2, 1) := by decide +kernel
theorem d_Co_halve_5 : decode prog_3_method_5_code 5 = .ok (.aload_n 0, 1) := by decide +kernel
theorem d_Co_halve_6 : decode prog_3_method_5_code 6 = .ok (.getfield 13, 3) := by decide +kernel
theorem d_Co_halve_9 : decode prog_3_method_5_code 9 = .ok (.arraylength, 1) := by decide +kernel
theorem d_Co_halve_10 : decode prog_3_method_5_code 10 = .ok (.if_icmp .ge 41, 3) := by decide +kernel
theorem d_Co_halve_13 : decode prog_3_method_5_code 13 = .ok (.iload_n 1, 1) := by decide +kernel
theorem d_Co_halve_14 : decode prog_3_method_5_code 14 = .ok (.aload_n 0, 1) := by decide +kernel
theorem d_Co_halve_15 : decode prog_3_method_5_code 15 = .ok (.getfield 13, 3) := by decide +kernel
theorem d_Co_halve_18 : decode prog_3_method_5_code 18 = .ok (.iload_n 2, 1) := by decide +kernel
theorem d_Co_halve_19 : decode prog_3_method_5_code 19 = .ok (.iaload, 1) := by decide +kernel
theorem d_Co_halve_20 : decode prog_3_method_5_code 20 = .ok (.ldc 35, 2) := by decide +kernel
theorem d_Co_halve_22 : decode prog_3_method_5_code 22 = .ok (.iand, 1) := by decide +kernel
theorem d_Co_halve_23 : decode prog_3_method_5_code 23 = .ok (.invokestatic 36, 3) := by decide +kernel
theorem d_Co_halve_26 : decode prog_3_method_5_code 26 = .ok (.iadd, 1) := by decide +kernel
theorem d_Co_halve_27 : decode prog_3_method_5_code 27 = .ok (.istore_n 1, 1) := by decide +kernel
theorem d_Co_halve_28 : decode prog_3_method_5_code 28 = .ok (.aload_n 0, 1) := by decide +kernel
theorem d_Co_halve_29 : decode prog_3_method_5_code 29 = .ok (.getfield 13, 3) := by decide +kernel
theorem d_Co_halve_32 : decode prog_3_method_5_code 32 = .ok (.iload_n 2, 1) := by decide +kernel
theorem d_Co_halve_33 : decode prog_3_method_5_code 33 = .ok (.aload_n 0, 1) := by decide +kernel
theorem d_Co_halve_34 : decode prog_3_method_5_code 34 = .ok (.getfield 13, 3) := by decide +kernel
theorem d_Co_halve_37 : decode prog_3_method_5_code 37 = .ok (.iload_n 2, 1) := by decide +kernel
theorem d_Co_halve_38 : decode prog_3_method_5_code 38 = .ok (.iaload, 1) := by decide +kernel
theorem d_Co_halve_39 : decode prog_3_method_5_code 39 = .ok (.iconst 1, 1) := by decide +kernel
theorem d_Co_halve_40 : decode prog_3_method_5_code 40 = .ok (.iushr, 1) := by decide +kernel
theorem d_Co_halve_41 : decode prog_3_method_5_code 41 = .ok (.ldc 42, 2) := by decide +kernel
theorem d_Co_halve_43 : decode prog_3_method_5_code 43 = .ok (.iand, 1) := by decide +kernel
theorem d_Co_halve_44 : decode prog_3_method_5_code 44 = .ok (.iastore, 1) := by decide +kernel
theorem d_Co_halve_45 : decode prog_3_method_5_code 45 = .ok (.iinc 2 1, 3) := by decide +kernel
theorem d_Co_halve_48 : decode prog_3_method_5_code 48 = .ok (.goto (-44), 3) := by decide +kernel
theorem d_Co_halve_51 : decode prog_3_method_5_code 51 = .ok (.aload_n 0, 1) := by decide +kernel
theorem d_Co_halve_52 : decode prog_3_method_5_code 52 = .ok (.aload_n 0, 1) := by decide +kernel
theorem d_Co_halve_53 : decode prog_3_method_5_code 53 = .ok (.getfield 21, 3) := by decide +kernel
theorem d_Co_halve_56 : decode prog_3_method_5_code 56 = .ok (.iload_n 1, 1) := by decide +kernel
theorem d_Co_halve_57 : decode prog_3_method_5_code 57 = .ok (.iconst 4, 1) := by decide +kernel
theorem d_Co_halve_58 : decode prog_3_method_5_code 58 = .ok (.idiv, 1) := by decide +kernel
theorem d_Co_halve_59 : decode prog_3_method_5_code 59 = .ok (.isub, 1) := by decide +kernel
theorem d_Co_halve_60 : decode prog_3_method_5_code 60 = .ok (.iconst 2, 1) := by decide +kernel
theorem d_Co_halve_61 : decode prog_3_method_5_code 61 = .ok (.idiv, 1) := by decide +kernel
theorem d_Co_halve_62 : decode prog_3_method_5_code 62 = .ok (.putfield 21, 3) := by decide +kernel
theorem d_Co_halve_65 : decode prog_3_method_5_code 65 = .ok (.return_, 1) := by decide +kernel
def y_Co_add : MethodName := ⟨"WindowCache$Counts", "add", "(I)V"⟩
theorem y_Co_add_ok : y_Co_add.cls ≠ "java/lang/invoke/MethodHandle" ∧ y_Co_add.cls ≠ "java/lang/invoke/VarHandle" ∧ (parseMethodDescriptor y_Co_add.desc).map (fun d => d.parameters.length) = some 1 := by decide +kernel
def rm_Co_add : Room := { frames := 2, cells := 0, slots := 0, locals := 42 }
theorem d_Co_add_0 : decode prog_3_method_2_code 0 = .ok (.iconst 0, 1) := by decide +kernel
theorem d_Co_add_1 : decode prog_3_method_2_code 1 = .ok (.istore_n 2, 1) := by decide +kernel
theorem d_Co_add_2 : decode prog_3_method_2_code 2 = .ok (.iconst 0, 1) := by decide +kernel
theorem d_Co_add_3 : decode prog_3_method_2_code 3 = .ok (.istore_n 3, 1) := by decide +kernel
theorem d_Co_add_4 : decode prog_3_method_2_code 4 = .ok (.iload_n 3, 1) := by decide +kernel
theorem d_Co_add_5 : decode prog_3_method_2_code 5 = .ok (.iconst 4, 1) := by decide +kernel
theorem d_Co_add_6 : decode prog_3_method_2_code 6 = .ok (.if_icmp .ge 64, 3) := by decide +kernel
theorem d_Co_add_9 : decode prog_3_method_2_code 9 = .ok (.aload_n 0, 1) := by decide +kernel
theorem d_Co_add_10 : decode prog_3_method_2_code 10 = .ok (.iload_n 3, 1) := by decide +kernel
theorem d_Co_add_11 : decode prog_3_method_2_code 11 = .ok (.iload_n 1, 1) := by decide +kernel
theorem d_Co_add_12 : decode prog_3_method_2_code 12 = .ok (.invokevirtual 17, 3) := by decide +kernel
theorem d_Co_add_15 : decode prog_3_method_2_code 15 = .ok (.istore 4, 2) := by decide +kernel
theorem d_Co_add_17 : decode prog_3_method_2_code 17 = .ok (.iload 4, 2) := by decide +kernel
theorem d_Co_add_19 : decode prog_3_method_2_code 19 = .ok (.bipush 7, 2) := by decide +kernel
theorem d_Co_add_21 : decode prog_3_method_2_code 21 = .ok (.iand, 1) := by decide +kernel
theorem d_Co_add_22 : decode prog_3_method_2_code 22 = .ok (.iconst 4, 1) := by decide +kernel
theorem d_Co_add_23 : decode prog_3_method_2_code 23 = .ok (.imul, 1) := by decide +kernel
theorem d_Co_add_24 : decode prog_3_method_2_code 24 = .ok (.istore 5, 2) := by decide +kernel
theorem d_Co_add_26 : decode prog_3_method_2_code 26 = .ok (.aload_n 0, 1) := by decide +kernel
theorem d_Co_add_27 : decode prog_3_method_2_code 27 = .ok (.getfield 13, 3) := by decide +kernel
theorem d_Co_add_30 : decode prog_3_method_2_code 30 = .ok (.iload 4, 2) := by decide +kernel
theorem d_Co_add_32 : decode prog_3_method_2_code 32 = .ok (.iconst 3, 1) := by decide +kernel
theorem d_Co_add_33 : decode prog_3_method_2_code 33 = .ok (.iushr, 1) := by decide +kernel
theorem d_Co_add_34 : decode prog_3_method_2_code 34 = .ok (.iaload, 1) := by decide +kernel
theorem d_Co_add_35 : decode prog_3_method_2_code 35 = .ok (.iload 5, 2) := by decide +kernel
theorem d_Co_add_37 : decode prog_3_method_2_code 37 = .ok (.iushr, 1) := by decide +kernel
theorem d_Co_add_38 : decode prog_3_method_2_code 38 = .ok (.bipush 15, 2) := by decide +kernel
theorem d_Co_add_40 : decode prog_3_method_2_code 40 = .ok (.iand, 1) := by decide +kernel
theorem d_Co_add_41 : decode prog_3_method_2_code 41 = .ok (.bipush 15, 2) := by decide +kernel
theorem d_Co_add_43 : decode prog_3_method_2_code 43 = .ok (.if_icmp .ge 21, 3) := by decide +kernel
theorem d_Co_add_46 : decode prog_3_method_2_code 46 = .ok (.aload_n 0, 1) := by decide +kernel
theorem d_Co_add_47 : decode prog_3_method_2_code 47 = .ok (.getfield 13, 3) := by decide +kernel
theorem d_Co_add_50 : decode prog_3_method_2_code 50 = .ok (.iload 4, 2) := by decide +kernel
theorem d_Co_add_52 : decode prog_3_method_2_code 52 = .ok (.iconst 3, 1) := by decide +kernel
theorem d_Co_add_53 : decode prog_3_method_2_code 53 = .ok (.iushr, 1) := by decide +kernel
theorem d_Co_add_54 : decode prog_3_method_2_code 54 = .ok (.dup2, 1) := by decide +kernel
theorem d_Co_add_55 : decode prog_3_method_2_code 55 = .ok (.iaload, 1) := by decide +kernel
theorem d_Co_add_56 : decode prog_3_method_2_code 56 = .ok (.iconst 1, 1) := by decide +kernel
theorem d_Co_add_57 : decode prog_3_method_2_code 57 = .ok (.iload 5, 2) := by decide +kernel
theorem d_Co_add_59 : decode prog_3_method_2_code 59 = .ok (.ishl, 1) := by decide +kernel
theorem d_Co_add_60 : decode prog_3_method_2_code 60 = .ok (.iadd, 1) := by decide +kernel
theorem d_Co_add_61 : decode prog_3_method_2_code 61 = .ok (.iastore, 1) := by decide +kernel
theorem d_Co_add_62 : decode prog_3_method_2_code 62 = .ok (.iconst 1, 1) := by decide +kernel
theorem d_Co_add_63 : decode prog_3_method_2_code 63 = .ok (.istore_n 2, 1) := by decide +kernel
theorem d_Co_add_64 : decode prog_3_method_2_code 64 = .ok (.iinc 3 1, 3) := by decide +kernel
theorem d_Co_add_67 : decode prog_3_method_2_code 67 = .ok (.goto (-63), 3) := by decide +kernel
theorem d_Co_add_70 : decode prog_3_method_2_code 70 = .ok (.iload_n 2, 1) := by decide +kernel
theorem d_Co_add_71 : decode prog_3_method_2_code 71 = .ok (.ifCond .eq 31, 3) := by decide +kernel
theorem d_Co_add_74 : decode prog_3_method_2_code 74 = .ok (.aload_n 0, 1) := by decide +kernel
theorem d_Co_add_75 : decode prog_3_method_2_code 75 = .ok (.dup, 1) := by decide +kernel
theorem d_Co_add_76 : decode prog_3_method_2_code 76 = .ok (.getfield 21, 3) := by decide +kernel
theorem d_Co_add_79 : decode prog_3_method_2_code 79 = .ok (.iconst 1, 1) := by decide +kernel
theorem d_Co_add_80 : decode prog_3_method_2_code 80 = .ok (.iadd, 1) := by decide +kernel
theorem d_Co_add_81 : decode prog_3_method_2_code 81 = .ok (.putfield 21, 3) := by decide +kernel
theorem d_Co_add_84 : decode prog_3_method_2_code 84 = .ok (.aload_n 0, 1) := by decide +kernel
theorem d_Co_add_85 : decode prog_3_method_2_code 85 = .ok (.getfield 21, 3) := by decide +kernel
theorem d_Co_add_88 : decode prog_3_method_2_code 88 = .ok (.bipush 10, 2) := by decide +kernel
theorem d_Co_add_90 : decode prog_3_method_2_code 90 = .ok (.aload_n 0, 1) := by decide +kernel
theorem d_Co_add_91 : decode prog_3_method_2_code 91 = .ok (.getfield 9, 3) := by decide +kernel
theorem d_Co_add_94 : decode prog_3_method_2_code 94 = .ok (.imul, 1) := by decide +kernel
theorem d_Co_add_95 : decode prog_3_method_2_code 95 = .ok (.if_icmp .lt 7, 3) := by decide +kernel
theorem d_Co_add_98 : decode prog_3_method_2_code 98 = .ok (.aload_n 0, 1) := by decide +kernel
theorem d_Co_add_99 : decode prog_3_method_2_code 99 = .ok (.invokevirtual 24, 3) := by decide +kernel
theorem d_Co_add_102 : decode prog_3_method_2_code 102 = .ok (.return_, 1) := by decide +kernel
def y_Co_leastOf : MethodName := ⟨"WindowCache$Counts", "leastOf", "(I)I"⟩
theorem y_Co_leastOf_ok : y_Co_leastOf.cls ≠ "java/lang/invoke/MethodHandle" ∧ y_Co_leastOf.cls ≠ "java/lang/invoke/VarHandle" ∧ (parseMethodDescriptor y_Co_leastOf.desc).map (fun d => d.parameters.length) = some 1 := by decide +kernel
def rm_Co_leastOf : Room := { frames := 1, cells := 0, slots := 0, locals := 24 }
theorem d_Co_leastOf_0 : decode prog_3_method_3_code 0 = .ok (.bipush 15, 2) := by decide +kernel
theorem d_Co_leastOf_2 : decode prog_3_method_3_code 2 = .ok (.istore_n 2, 1) := by decide +kernel
theorem d_Co_leastOf_3 : decode prog_3_method_3_code 3 = .ok (.iconst 0, 1) := by decide +kernel
theorem d_Co_leastOf_4 : decode prog_3_method_3_code 4 = .ok (.istore_n 3, 1) := by decide +kernel
theorem d_Co_leastOf_5 : decode prog_3_method_3_code 5 = .ok (.iload_n 3, 1) := by decide +kernel
theorem d_Co_leastOf_6 : decode prog_3_method_3_code 6 = .ok (.iconst 4, 1) := by decide +kernel
theorem d_Co_leastOf_7 : decode prog_3_method_3_code 7 = .ok (.if_icmp .ge 42, 3) := by decide +kernel
theorem d_Co_leastOf_10 : decode prog_3_method_3_code 10 = .ok (.aload_n 0, 1) := by decide +kernel
theorem d_Co_leastOf_11 : decode prog_3_method_3_code 11 = .ok (.iload_n 3, 1) := by decide +kernel
theorem d_Co_leastOf_12 : decode prog_3_method_3_code 12 = .ok (.iload_n 1, 1) := by decide +kernel
theorem d_Co_leastOf_13 : decode prog_3_method_3_code 13 = .ok (.invokevirtual 17, 3) := by decide +kernel
theorem d_Co_leastOf_16 : decode prog_3_method_3_code 16 = .ok (.istore 4, 2) := by decide +kernel
theorem d_Co_leastOf_18 : decode prog_3_method_3_code 18 = .ok (.iload_n 2, 1) := by decide +kernel
theorem d_Co_leastOf_19 : decode prog_3_method_3_code 19 = .ok (.aload_n 0, 1) := by decide +kernel
theorem d_Co_leastOf_20 : decode prog_3_method_3_code 20 = .ok (.getfield 13, 3) := by decide +kernel
theorem d_Co_leastOf_23 : decode prog_3_method_3_code 23 = .ok (.iload 4, 2) := by decide +kernel
theorem d_Co_leastOf_25 : decode prog_3_method_3_code 25 = .ok (.iconst 3, 1) := by decide +kernel
theorem d_Co_leastOf_26 : decode prog_3_method_3_code 26 = .ok (.iushr, 1) := by decide +kernel
theorem d_Co_leastOf_27 : decode prog_3_method_3_code 27 = .ok (.iaload, 1) := by decide +kernel
theorem d_Co_leastOf_28 : decode prog_3_method_3_code 28 = .ok (.iload 4, 2) := by decide +kernel
theorem d_Co_leastOf_30 : decode prog_3_method_3_code 30 = .ok (.bipush 7, 2) := by decide +kernel
theorem d_Co_leastOf_32 : decode prog_3_method_3_code 32 = .ok (.iand, 1) := by decide +kernel
theorem d_Co_leastOf_33 : decode prog_3_method_3_code 33 = .ok (.iconst 4, 1) := by decide +kernel
theorem d_Co_leastOf_34 : decode prog_3_method_3_code 34 = .ok (.imul, 1) := by decide +kernel
theorem d_Co_leastOf_35 : decode prog_3_method_3_code 35 = .ok (.iushr, 1) := by decide +kernel
theorem d_Co_leastOf_36 : decode prog_3_method_3_code 36 = .ok (.bipush 15, 2) := by decide +kernel
theorem d_Co_leastOf_38 : decode prog_3_method_3_code 38 = .ok (.iand, 1) := by decide +kernel
theorem d_Co_leastOf_39 : decode prog_3_method_3_code 39 = .ok (.invokestatic 27, 3) := by decide +kernel
theorem d_Co_leastOf_42 : decode prog_3_method_3_code 42 = .ok (.istore_n 2, 1) := by decide +kernel
theorem d_Co_leastOf_43 : decode prog_3_method_3_code 43 = .ok (.iinc 3 1, 3) := by decide +kernel
theorem d_Co_leastOf_46 : decode prog_3_method_3_code 46 = .ok (.goto (-41), 3) := by decide +kernel
theorem d_Co_leastOf_49 : decode prog_3_method_3_code 49 = .ok (.iload_n 2, 1) := by decide +kernel
theorem d_Co_leastOf_50 : decode prog_3_method_3_code 50 = .ok (.ireturn, 1) := by decide +kernel
