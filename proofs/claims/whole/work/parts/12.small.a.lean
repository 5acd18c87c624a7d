def y_No_init : MethodName := ⟨"WindowCache$Notes", "<init>", "()V"⟩
theorem y_No_init_ok : y_No_init.cls ≠ "java/lang/invoke/MethodHandle" ∧ y_No_init.cls ≠ "java/lang/invoke/VarHandle" ∧ (parseMethodDescriptor y_No_init.desc).map (fun d => d.parameters.length) = some 0 := by decide +kernel
def rm_No_init : Room := { frames := 1, cells := 1, slots := 16, locals := 24 }
theorem d_No_init_0 : decode prog_7_method_1_code 0 = .ok (.aload_n 0, 1) := by decide +kernel
theorem d_No_init_1 : decode prog_7_method_1_code 1 = .ok (.invokespecial 1, 3) := by decide +kernel
theorem d_No_init_4 : decode prog_7_method_1_code 4 = .ok (.aload_n 0, 1) := by decide +kernel
theorem d_No_init_5 : decode prog_7_method_1_code 5 = .ok (.bipush 16, 2) := by decide +kernel
theorem d_No_init_7 : decode prog_7_method_1_code 7 = .ok (.anewarray 9, 3) := by decide +kernel
theorem d_No_init_10 : decode prog_7_method_1_code 10 = .ok (.putfield 11, 3) := by decide +kernel
theorem d_No_init_13 : decode prog_7_method_1_code 13 = .ok (.return_, 1) := by decide +kernel
def y_Ta_init : MethodName := ⟨"WindowCache$Tasks", "<init>", "()V"⟩
theorem y_Ta_init_ok : y_Ta_init.cls ≠ "java/lang/invoke/MethodHandle" ∧ y_Ta_init.cls ≠ "java/lang/invoke/VarHandle" ∧ (parseMethodDescriptor y_Ta_init.desc).map (fun d => d.parameters.length) = some 0 := by decide +kernel
def rm_Ta_init : Room := { frames := 1, cells := 2, slots := 16, locals := 24 }
theorem d_Ta_init_0 : decode prog_10_method_1_code 0 = .ok (.aload_n 0, 1) := by decide +kernel
theorem d_Ta_init_1 : decode prog_10_method_1_code 1 = .ok (.invokespecial 1, 3) := by decide +kernel
theorem d_Ta_init_4 : decode prog_10_method_1_code 4 = .ok (.aload_n 0, 1) := by decide +kernel
theorem d_Ta_init_5 : decode prog_10_method_1_code 5 = .ok (.bipush 8, 2) := by decide +kernel
theorem d_Ta_init_7 : decode prog_10_method_1_code 7 = .ok (.anewarray 9, 3) := by decide +kernel
theorem d_Ta_init_10 : decode prog_10_method_1_code 10 = .ok (.putfield 11, 3) := by decide +kernel
theorem d_Ta_init_13 : decode prog_10_method_1_code 13 = .ok (.aload_n 0, 1) := by decide +kernel
theorem d_Ta_init_14 : decode prog_10_method_1_code 14 = .ok (.bipush 8, 2) := by decide +kernel
theorem d_Ta_init_16 : decode prog_10_method_1_code 16 = .ok (.newarray .int, 2) := by decide +kernel
theorem d_Ta_init_18 : decode prog_10_method_1_code 18 = .ok (.putfield 15, 3) := by decide +kernel
theorem d_Ta_init_21 : decode prog_10_method_1_code 21 = .ok (.return_, 1) := by decide +kernel
def y_Lo_init : MethodName := ⟨"WindowCache$Log", "<init>", "()V"⟩
theorem y_Lo_init_ok : y_Lo_init.cls ≠ "java/lang/invoke/MethodHandle" ∧ y_Lo_init.cls ≠ "java/lang/invoke/VarHandle" ∧ (parseMethodDescriptor y_Lo_init.desc).map (fun d => d.parameters.length) = some 0 := by decide +kernel
def rm_Lo_init : Room := { frames := 1, cells := 3, slots := 1500, locals := 24 }
theorem d_Lo_init_0 : decode prog_6_method_1_code 0 = .ok (.aload_n 0, 1) := by decide +kernel
theorem d_Lo_init_1 : decode prog_6_method_1_code 1 = .ok (.invokespecial 3, 3) := by decide +kernel
theorem d_Lo_init_4 : decode prog_6_method_1_code 4 = .ok (.aload_n 0, 1) := by decide +kernel
theorem d_Lo_init_5 : decode prog_6_method_1_code 5 = .ok (.sipush 500, 3) := by decide +kernel
theorem d_Lo_init_8 : decode prog_6_method_1_code 8 = .ok (.newarray .int, 2) := by decide +kernel
theorem d_Lo_init_10 : decode prog_6_method_1_code 10 = .ok (.putfield 11, 3) := by decide +kernel
theorem d_Lo_init_13 : decode prog_6_method_1_code 13 = .ok (.aload_n 0, 1) := by decide +kernel
theorem d_Lo_init_14 : decode prog_6_method_1_code 14 = .ok (.sipush 500, 3) := by decide +kernel
theorem d_Lo_init_17 : decode prog_6_method_1_code 17 = .ok (.newarray .int, 2) := by decide +kernel
theorem d_Lo_init_19 : decode prog_6_method_1_code 19 = .ok (.putfield 15, 3) := by decide +kernel
theorem d_Lo_init_22 : decode prog_6_method_1_code 22 = .ok (.aload_n 0, 1) := by decide +kernel
theorem d_Lo_init_23 : decode prog_6_method_1_code 23 = .ok (.sipush 500, 3) := by decide +kernel
theorem d_Lo_init_26 : decode prog_6_method_1_code 26 = .ok (.newarray .int, 2) := by decide +kernel
theorem d_Lo_init_28 : decode prog_6_method_1_code 28 = .ok (.putfield 18, 3) := by decide +kernel
theorem d_Lo_init_31 : decode prog_6_method_1_code 31 = .ok (.return_, 1) := by decide +kernel
def y_Li_init : MethodName := ⟨"WindowCache$Lives", "<init>", "(II)V"⟩
theorem y_Li_init_ok : y_Li_init.cls ≠ "java/lang/invoke/MethodHandle" ∧ y_Li_init.cls ≠ "java/lang/invoke/VarHandle" ∧ (parseMethodDescriptor y_Li_init.desc).map (fun d => d.parameters.length) = some 2 := by decide +kernel
def rm_Li_init : Room := { frames := 1, cells := 0, slots := 0, locals := 24 }
theorem d_Li_init_0 : decode prog_5_method_1_code 0 = .ok (.aload_n 0, 1) := by decide +kernel
theorem d_Li_init_1 : decode prog_5_method_1_code 1 = .ok (.invokespecial 3, 3) := by decide +kernel
theorem d_Li_init_4 : decode prog_5_method_1_code 4 = .ok (.aload_n 0, 1) := by decide +kernel
theorem d_Li_init_5 : decode prog_5_method_1_code 5 = .ok (.iload_n 1, 1) := by decide +kernel
theorem d_Li_init_6 : decode prog_5_method_1_code 6 = .ok (.putfield 9, 3) := by decide +kernel
theorem d_Li_init_9 : decode prog_5_method_1_code 9 = .ok (.aload_n 0, 1) := by decide +kernel
theorem d_Li_init_10 : decode prog_5_method_1_code 10 = .ok (.iload_n 2, 1) := by decide +kernel
theorem d_Li_init_11 : decode prog_5_method_1_code 11 = .ok (.putfield 15, 3) := by decide +kernel
theorem d_Li_init_14 : decode prog_5_method_1_code 14 = .ok (.return_, 1) := by decide +kernel
def y_Cl_init : MethodName := ⟨"WindowCache$Climb", "<init>", "(I)V"⟩
theorem y_Cl_init_ok : y_Cl_init.cls ≠ "java/lang/invoke/MethodHandle" ∧ y_Cl_init.cls ≠ "java/lang/invoke/VarHandle" ∧ (parseMethodDescriptor y_Cl_init.desc).map (fun d => d.parameters.length) = some 1 := by decide +kernel
def rm_Cl_init : Room := { frames := 1, cells := 0, slots := 0, locals := 24 }
theorem d_Cl_init_0 : decode prog_2_method_1_code 0 = .ok (.aload_n 0, 1) := by decide +kernel
theorem d_Cl_init_1 : decode prog_2_method_1_code 1 = .ok (.invokespecial 1, 3) := by decide +kernel
theorem d_Cl_init_4 : decode prog_2_method_1_code 4 = .ok (.aload_n 0, 1) := by decide +kernel
theorem d_Cl_init_5 : decode prog_2_method_1_code 5 = .ok (.iconst 1, 1) := by decide +kernel
theorem d_Cl_init_6 : decode prog_2_method_1_code 6 = .ok (.putfield 7, 3) := by decide +kernel
theorem d_Cl_init_9 : decode prog_2_method_1_code 9 = .ok (.aload_n 0, 1) := by decide +kernel
theorem d_Cl_init_10 : decode prog_2_method_1_code 10 = .ok (.bipush 10, 2) := by decide +kernel
theorem d_Cl_init_12 : decode prog_2_method_1_code 12 = .ok (.iload_n 1, 1) := by decide +kernel
theorem d_Cl_init_13 : decode prog_2_method_1_code 13 = .ok (.imul, 1) := by decide +kernel
theorem d_Cl_init_14 : decode prog_2_method_1_code 14 = .ok (.putfield 13, 3) := by decide +kernel
theorem d_Cl_init_17 : decode prog_2_method_1_code 17 = .ok (.aload_n 0, 1) := by decide +kernel
theorem d_Cl_init_18 : decode prog_2_method_1_code 18 = .ok (.iconst 1, 1) := by decide +kernel
theorem d_Cl_init_19 : decode prog_2_method_1_code 19 = .ok (.iload_n 1, 1) := by decide +kernel
theorem d_Cl_init_20 : decode prog_2_method_1_code 20 = .ok (.bipush 16, 2) := by decide +kernel
theorem d_Cl_init_22 : decode prog_2_method_1_code 22 = .ok (.idiv, 1) := by decide +kernel
theorem d_Cl_init_23 : decode prog_2_method_1_code 23 = .ok (.invokestatic 17, 3) := by decide +kernel
theorem d_Cl_init_26 : decode prog_2_method_1_code 26 = .ok (.putfield 23, 3) := by decide +kernel
theorem d_Cl_init_29 : decode prog_2_method_1_code 29 = .ok (.aload_n 0, 1) := by decide +kernel
theorem d_Cl_init_30 : decode prog_2_method_1_code 30 = .ok (.aload_n 0, 1) := by decide +kernel
theorem d_Cl_init_31 : decode prog_2_method_1_code 31 = .ok (.getfield 23, 3) := by decide +kernel
theorem d_Cl_init_34 : decode prog_2_method_1_code 34 = .ok (.putfield 26, 3) := by decide +kernel
theorem d_Cl_init_37 : decode prog_2_method_1_code 37 = .ok (.return_, 1) := by decide +kernel
def y_Li_isOver : MethodName := ⟨"WindowCache$Lives", "isOver", "(LWindowCache$Entry;)Z"⟩
theorem y_Li_isOver_ok : y_Li_isOver.cls ≠ "java/lang/invoke/MethodHandle" ∧ y_Li_isOver.cls ≠ "java/lang/invoke/VarHandle" ∧ (parseMethodDescriptor y_Li_isOver.desc).map (fun d => d.parameters.length) = some 1 := by decide +kernel
def rm_Li_isOver : Room := { frames := 0, cells := 0, slots := 0, locals := 0 }
theorem d_Li_isOver_0 : decode prog_5_method_4_code 0 = .ok (.aload_n 0, 1) := by decide +kernel
theorem d_Li_isOver_1 : decode prog_5_method_4_code 1 = .ok (.getfield 18, 3) := by decide +kernel
theorem d_Li_isOver_4 : decode prog_5_method_4_code 4 = .ok (.aload_n 1, 1) := by decide +kernel
theorem d_Li_isOver_5 : decode prog_5_method_4_code 5 = .ok (.getfield 43, 3) := by decide +kernel
theorem d_Li_isOver_8 : decode prog_5_method_4_code 8 = .ok (.lcmp, 1) := by decide +kernel
theorem d_Li_isOver_9 : decode prog_5_method_4_code 9 = .ok (.ifCond .lt 7, 3) := by decide +kernel
theorem d_Li_isOver_12 : decode prog_5_method_4_code 12 = .ok (.iconst 1, 1) := by decide +kernel
theorem d_Li_isOver_13 : decode prog_5_method_4_code 13 = .ok (.goto 4, 3) := by decide +kernel
theorem d_Li_isOver_16 : decode prog_5_method_4_code 16 = .ok (.iconst 0, 1) := by decide +kernel
theorem d_Li_isOver_17 : decode prog_5_method_4_code 17 = .ok (.ireturn, 1) := by decide +kernel
def y_Li_prolong : MethodName := ⟨"WindowCache$Lives", "prolong", "(LWindowCache$Entry;)V"⟩
theorem y_Li_prolong_ok : y_Li_prolong.cls ≠ "java/lang/invoke/MethodHandle" ∧ y_Li_prolong.cls ≠ "java/lang/invoke/VarHandle" ∧ (parseMethodDescriptor y_Li_prolong.desc).map (fun d => d.parameters.length) = some 1 := by decide +kernel
def rm_Li_prolong : Room := { frames := 1, cells := 0, slots := 0, locals := 24 }
theorem d_Li_prolong_0 : decode prog_5_method_3_code 0 = .ok (.aload_n 1, 1) := by decide +kernel
theorem d_Li_prolong_1 : decode prog_5_method_3_code 1 = .ok (.aload_n 1, 1) := by decide +kernel
theorem d_Li_prolong_2 : decode prog_5_method_3_code 2 = .ok (.getfield 29, 3) := by decide +kernel
theorem d_Li_prolong_5 : decode prog_5_method_3_code 5 = .ok (.ifCond .eq 23, 3) := by decide +kernel
theorem d_Li_prolong_8 : decode prog_5_method_3_code 8 = .ok (.aload_n 1, 1) := by decide +kernel
theorem d_Li_prolong_9 : decode prog_5_method_3_code 9 = .ok (.getfield 24, 3) := by decide +kernel
theorem d_Li_prolong_12 : decode prog_5_method_3_code 12 = .ok (.aload_n 0, 1) := by decide +kernel
theorem d_Li_prolong_13 : decode prog_5_method_3_code 13 = .ok (.getfield 18, 3) := by decide +kernel
theorem d_Li_prolong_16 : decode prog_5_method_3_code 16 = .ok (.aload_n 0, 1) := by decide +kernel
theorem d_Li_prolong_17 : decode prog_5_method_3_code 17 = .ok (.getfield 15, 3) := by decide +kernel
theorem d_Li_prolong_20 : decode prog_5_method_3_code 20 = .ok (.i2l, 1) := by decide +kernel
theorem d_Li_prolong_21 : decode prog_5_method_3_code 21 = .ok (.ladd, 1) := by decide +kernel
theorem d_Li_prolong_22 : decode prog_5_method_3_code 22 = .ok (.invokestatic 37, 3) := by decide +kernel
theorem d_Li_prolong_25 : decode prog_5_method_3_code 25 = .ok (.goto 7, 3) := by decide +kernel
theorem d_Li_prolong_28 : decode prog_5_method_3_code 28 = .ok (.aload_n 1, 1) := by decide +kernel
theorem d_Li_prolong_29 : decode prog_5_method_3_code 29 = .ok (.getfield 24, 3) := by decide +kernel
theorem d_Li_prolong_32 : decode prog_5_method_3_code 32 = .ok (.putfield 43, 3) := by decide +kernel
theorem d_Li_prolong_35 : decode prog_5_method_3_code 35 = .ok (.return_, 1) := by decide +kernel
def y_No_add : MethodName := ⟨"WindowCache$Notes", "add", "(LWindowCache$Entry;)V"⟩
theorem y_No_add_ok : y_No_add.cls ≠ "java/lang/invoke/MethodHandle" ∧ y_No_add.cls ≠ "java/lang/invoke/VarHandle" ∧ (parseMethodDescriptor y_No_add.desc).map (fun d => d.parameters.length) = some 1 := by decide +kernel
def rm_No_add : Room := { frames := 0, cells := 0, slots := 0, locals := 0 }
theorem d_No_add_0 : decode prog_7_method_2_code 0 = .ok (.aload_n 0, 1) := by decide +kernel
theorem d_No_add_1 : decode prog_7_method_2_code 1 = .ok (.getfield 15, 3) := by decide +kernel
theorem d_No_add_4 : decode prog_7_method_2_code 4 = .ok (.bipush 16, 2) := by decide +kernel
theorem d_No_add_6 : decode prog_7_method_2_code 6 = .ok (.if_icmp .ge 26, 3) := by decide +kernel
theorem d_No_add_9 : decode prog_7_method_2_code 9 = .ok (.aload_n 0, 1) := by decide +kernel
theorem d_No_add_10 : decode prog_7_method_2_code 10 = .ok (.getfield 11, 3) := by decide +kernel
theorem d_No_add_13 : decode prog_7_method_2_code 13 = .ok (.aload_n 0, 1) := by decide +kernel
theorem d_No_add_14 : decode prog_7_method_2_code 14 = .ok (.getfield 15, 3) := by decide +kernel
theorem d_No_add_17 : decode prog_7_method_2_code 17 = .ok (.aload_n 1, 1) := by decide +kernel
theorem d_No_add_18 : decode prog_7_method_2_code 18 = .ok (.aastore, 1) := by decide +kernel
theorem d_No_add_19 : decode prog_7_method_2_code 19 = .ok (.aload_n 0, 1) := by decide +kernel
theorem d_No_add_20 : decode prog_7_method_2_code 20 = .ok (.dup, 1) := by decide +kernel
theorem d_No_add_21 : decode prog_7_method_2_code 21 = .ok (.getfield 15, 3) := by decide +kernel
theorem d_No_add_24 : decode prog_7_method_2_code 24 = .ok (.iconst 1, 1) := by decide +kernel
theorem d_No_add_25 : decode prog_7_method_2_code 25 = .ok (.iadd, 1) := by decide +kernel
theorem d_No_add_26 : decode prog_7_method_2_code 26 = .ok (.putfield 15, 3) := by decide +kernel
theorem d_No_add_29 : decode prog_7_method_2_code 29 = .ok (.goto 13, 3) := by decide +kernel
theorem d_No_add_32 : decode prog_7_method_2_code 32 = .ok (.aload_n 0, 1) := by decide +kernel
theorem d_No_add_33 : decode prog_7_method_2_code 33 = .ok (.dup, 1) := by decide +kernel
theorem d_No_add_34 : decode prog_7_method_2_code 34 = .ok (.getfield 19, 3) := by decide +kernel
theorem d_No_add_37 : decode prog_7_method_2_code 37 = .ok (.iconst 1, 1) := by decide +kernel
theorem d_No_add_38 : decode prog_7_method_2_code 38 = .ok (.iadd, 1) := by decide +kernel
theorem d_No_add_39 : decode prog_7_method_2_code 39 = .ok (.putfield 19, 3) := by decide +kernel
theorem d_No_add_42 : decode prog_7_method_2_code 42 = .ok (.return_, 1) := by decide +kernel
def y_Lo_add : MethodName := ⟨"WindowCache$Log", "add", "(LWindowCache$Entry;I)V"⟩
theorem y_Lo_add_ok : y_Lo_add.cls ≠ "java/lang/invoke/MethodHandle" ∧ y_Lo_add.cls ≠ "java/lang/invoke/VarHandle" ∧ (parseMethodDescriptor y_Lo_add.desc).map (fun d => d.parameters.length) = some 2 := by decide +kernel
def rm_Lo_add : Room := { frames := 0, cells := 0, slots := 0, locals := 0 }
theorem d_Lo_add_0 : decode prog_6_method_2_code 0 = .ok (.aload_n 0, 1) := by decide +kernel
theorem d_Lo_add_1 : decode prog_6_method_2_code 1 = .ok (.getfield 21, 3) := by decide +kernel
theorem d_Lo_add_4 : decode prog_6_method_2_code 4 = .ok (.sipush 500, 3) := by decide +kernel
theorem d_Lo_add_7 : decode prog_6_method_2_code 7 = .ok (.if_icmp .ge 49, 3) := by decide +kernel
theorem d_Lo_add_10 : decode prog_6_method_2_code 10 = .ok (.aload_n 0, 1) := by decide +kernel
theorem d_Lo_add_11 : decode prog_6_method_2_code 11 = .ok (.getfield 11, 3) := by decide +kernel
theorem d_Lo_add_14 : decode prog_6_method_2_code 14 = .ok (.aload_n 0, 1) := by decide +kernel
theorem d_Lo_add_15 : decode prog_6_method_2_code 15 = .ok (.getfield 21, 3) := by decide +kernel
theorem d_Lo_add_18 : decode prog_6_method_2_code 18 = .ok (.aload_n 1, 1) := by decide +kernel
theorem d_Lo_add_19 : decode prog_6_method_2_code 19 = .ok (.getfield 25, 3) := by decide +kernel
theorem d_Lo_add_22 : decode prog_6_method_2_code 22 = .ok (.iastore, 1) := by decide +kernel
theorem d_Lo_add_23 : decode prog_6_method_2_code 23 = .ok (.aload_n 0, 1) := by decide +kernel
theorem d_Lo_add_24 : decode prog_6_method_2_code 24 = .ok (.getfield 15, 3) := by decide +kernel
theorem d_Lo_add_27 : decode prog_6_method_2_code 27 = .ok (.aload_n 0, 1) := by decide +kernel
theorem d_Lo_add_28 : decode prog_6_method_2_code 28 = .ok (.getfield 21, 3) := by decide +kernel
theorem d_Lo_add_31 : decode prog_6_method_2_code 31 = .ok (.aload_n 1, 1) := by decide +kernel
theorem d_Lo_add_32 : decode prog_6_method_2_code 32 = .ok (.getfield 30, 3) := by decide +kernel
theorem d_Lo_add_35 : decode prog_6_method_2_code 35 = .ok (.iastore, 1) := by decide +kernel
theorem d_Lo_add_36 : decode prog_6_method_2_code 36 = .ok (.aload_n 0, 1) := by decide +kernel
theorem d_Lo_add_37 : decode prog_6_method_2_code 37 = .ok (.getfield 18, 3) := by decide +kernel
theorem d_Lo_add_40 : decode prog_6_method_2_code 40 = .ok (.aload_n 0, 1) := by decide +kernel
theorem d_Lo_add_41 : decode prog_6_method_2_code 41 = .ok (.getfield 21, 3) := by decide +kernel
theorem d_Lo_add_44 : decode prog_6_method_2_code 44 = .ok (.iload_n 2, 1) := by decide +kernel
theorem d_Lo_add_45 : decode prog_6_method_2_code 45 = .ok (.iastore, 1) := by decide +kernel
theorem d_Lo_add_46 : decode prog_6_method_2_code 46 = .ok (.aload_n 0, 1) := by decide +kernel
theorem d_Lo_add_47 : decode prog_6_method_2_code 47 = .ok (.dup, 1) := by decide +kernel
theorem d_Lo_add_48 : decode prog_6_method_2_code 48 = .ok (.getfield 21, 3) := by decide +kernel
theorem d_Lo_add_51 : decode prog_6_method_2_code 51 = .ok (.iconst 1, 1) := by decide +kernel
theorem d_Lo_add_52 : decode prog_6_method_2_code 52 = .ok (.iadd, 1) := by decide +kernel
theorem d_Lo_add_53 : decode prog_6_method_2_code 53 = .ok (.putfield 21, 3) := by decide +kernel
theorem d_Lo_add_56 : decode prog_6_method_2_code 56 = .ok (.return_, 1) := by decide +kernel
def y_Ta_addUntilFull : MethodName := ⟨"WindowCache$Tasks", "addUntilFull", "(ILWindowCache$Entry;)Z"⟩
theorem y_Ta_addUntilFull_ok : y_Ta_addUntilFull.cls ≠ "java/lang/invoke/MethodHandle" ∧ y_Ta_addUntilFull.cls ≠ "java/lang/invoke/VarHandle" ∧ (parseMethodDescriptor y_Ta_addUntilFull.desc).map (fun d => d.parameters.length) = some 2 := by decide +kernel
def rm_Ta_addUntilFull : Room := { frames := 0, cells := 0, slots := 0, locals := 0 }
theorem d_Ta_addUntilFull_0 : decode prog_10_method_2_code 0 = .ok (.aload_n 0, 1) := by decide +kernel
theorem d_Ta_addUntilFull_1 : decode prog_10_method_2_code 1 = .ok (.getfield 19, 3) := by decide +kernel
theorem d_Ta_addUntilFull_4 : decode prog_10_method_2_code 4 = .ok (.bipush 8, 2) := by decide +kernel
theorem d_Ta_addUntilFull_6 : decode prog_10_method_2_code 6 = .ok (.if_icmp .ge 33, 3) := by decide +kernel
theorem d_Ta_addUntilFull_9 : decode prog_10_method_2_code 9 = .ok (.aload_n 0, 1) := by decide +kernel
theorem d_Ta_addUntilFull_10 : decode prog_10_method_2_code 10 = .ok (.getfield 11, 3) := by decide +kernel
theorem d_Ta_addUntilFull_13 : decode prog_10_method_2_code 13 = .ok (.aload_n 0, 1) := by decide +kernel
theorem d_Ta_addUntilFull_14 : decode prog_10_method_2_code 14 = .ok (.getfield 19, 3) := by decide +kernel
theorem d_Ta_addUntilFull_17 : decode prog_10_method_2_code 17 = .ok (.aload_n 2, 1) := by decide +kernel
theorem d_Ta_addUntilFull_18 : decode prog_10_method_2_code 18 = .ok (.aastore, 1) := by decide +kernel
theorem d_Ta_addUntilFull_19 : decode prog_10_method_2_code 19 = .ok (.aload_n 0, 1) := by decide +kernel
theorem d_Ta_addUntilFull_20 : decode prog_10_method_2_code 20 = .ok (.getfield 15, 3) := by decide +kernel
theorem d_Ta_addUntilFull_23 : decode prog_10_method_2_code 23 = .ok (.aload_n 0, 1) := by decide +kernel
theorem d_Ta_addUntilFull_24 : decode prog_10_method_2_code 24 = .ok (.getfield 19, 3) := by decide +kernel
theorem d_Ta_addUntilFull_27 : decode prog_10_method_2_code 27 = .ok (.iload_n 1, 1) := by decide +kernel
theorem d_Ta_addUntilFull_28 : decode prog_10_method_2_code 28 = .ok (.iastore, 1) := by decide +kernel
theorem d_Ta_addUntilFull_29 : decode prog_10_method_2_code 29 = .ok (.aload_n 0, 1) := by decide +kernel
theorem d_Ta_addUntilFull_30 : decode prog_10_method_2_code 30 = .ok (.dup, 1) := by decide +kernel
theorem d_Ta_addUntilFull_31 : decode prog_10_method_2_code 31 = .ok (.getfield 19, 3) := by decide +kernel
theorem d_Ta_addUntilFull_34 : decode prog_10_method_2_code 34 = .ok (.iconst 1, 1) := by decide +kernel
theorem d_Ta_addUntilFull_35 : decode prog_10_method_2_code 35 = .ok (.iadd, 1) := by decide +kernel
theorem d_Ta_addUntilFull_36 : decode prog_10_method_2_code 36 = .ok (.putfield 19, 3) := by decide +kernel
theorem d_Ta_addUntilFull_39 : decode prog_10_method_2_code 39 = .ok (.aload_n 0, 1) := by decide +kernel
theorem d_Ta_addUntilFull_40 : decode prog_10_method_2_code 40 = .ok (.getfield 19, 3) := by decide +kernel
theorem d_Ta_addUntilFull_43 : decode prog_10_method_2_code 43 = .ok (.bipush 8, 2) := by decide +kernel
theorem d_Ta_addUntilFull_45 : decode prog_10_method_2_code 45 = .ok (.if_icmp .lt 7, 3) := by decide +kernel
theorem d_Ta_addUntilFull_48 : decode prog_10_method_2_code 48 = .ok (.iconst 1, 1) := by decide +kernel
theorem d_Ta_addUntilFull_49 : decode prog_10_method_2_code 49 = .ok (.goto 4, 3) := by decide +kernel
theorem d_Ta_addUntilFull_52 : decode prog_10_method_2_code 52 = .ok (.iconst 0, 1) := by decide +kernel
theorem d_Ta_addUntilFull_53 : decode prog_10_method_2_code 53 = .ok (.ireturn, 1) := by decide +kernel
def y_Cl_isDue : MethodName := ⟨"WindowCache$Climb", "isDue", "()Z"⟩
theorem y_Cl_isDue_ok : y_Cl_isDue.cls ≠ "java/lang/invoke/MethodHandle" ∧ y_Cl_isDue.cls ≠ "java/lang/invoke/VarHandle" ∧ (parseMethodDescriptor y_Cl_isDue.desc).map (fun d => d.parameters.length) = some 0 := by decide +kernel
def rm_Cl_isDue : Room := { frames := 0, cells := 0, slots := 0, locals := 0 }
theorem d_Cl_isDue_0 : decode prog_2_method_2_code 0 = .ok (.aload_n 0, 1) := by decide +kernel
theorem d_Cl_isDue_1 : decode prog_2_method_2_code 1 = .ok (.getfield 29, 3) := by decide +kernel
theorem d_Cl_isDue_4 : decode prog_2_method_2_code 4 = .ok (.aload_n 0, 1) := by decide +kernel
theorem d_Cl_isDue_5 : decode prog_2_method_2_code 5 = .ok (.getfield 32, 3) := by decide +kernel
theorem d_Cl_isDue_8 : decode prog_2_method_2_code 8 = .ok (.iadd, 1) := by decide +kernel
theorem d_Cl_isDue_9 : decode prog_2_method_2_code 9 = .ok (.aload_n 0, 1) := by decide +kernel
theorem d_Cl_isDue_10 : decode prog_2_method_2_code 10 = .ok (.getfield 35, 3) := by decide +kernel
theorem d_Cl_isDue_13 : decode prog_2_method_2_code 13 = .ok (.isub, 1) := by decide +kernel
theorem d_Cl_isDue_14 : decode prog_2_method_2_code 14 = .ok (.aload_n 0, 1) := by decide +kernel
theorem d_Cl_isDue_15 : decode prog_2_method_2_code 15 = .ok (.getfield 13, 3) := by decide +kernel
theorem d_Cl_isDue_18 : decode prog_2_method_2_code 18 = .ok (.if_icmp .lt 7, 3) := by decide +kernel
theorem d_Cl_isDue_21 : decode prog_2_method_2_code 21 = .ok (.iconst 1, 1) := by decide +kernel
theorem d_Cl_isDue_22 : decode prog_2_method_2_code 22 = .ok (.goto 4, 3) := by decide +kernel
theorem d_Cl_isDue_25 : decode prog_2_method_2_code 25 = .ok (.iconst 0, 1) := by decide +kernel
theorem d_Cl_isDue_26 : decode prog_2_method_2_code 26 = .ok (.ireturn, 1) := by decide +kernel
def y_Cl_change : MethodName := ⟨"WindowCache$Climb", "change", "()I"⟩
theorem y_Cl_change_ok : y_Cl_change.cls ≠ "java/lang/invoke/MethodHandle" ∧ y_Cl_change.cls ≠ "java/lang/invoke/VarHandle" ∧ (parseMethodDescriptor y_Cl_change.desc).map (fun d => d.parameters.length) = some 0 := by decide +kernel
def rm_Cl_change : Room := { frames := 1, cells := 0, slots := 0, locals := 24 }
theorem d_Cl_change_0 : decode prog_2_method_3_code 0 = .ok (.aload_n 0, 1) := by decide +kernel
theorem d_Cl_change_1 : decode prog_2_method_3_code 1 = .ok (.getfield 29, 3) := by decide +kernel
theorem d_Cl_change_4 : decode prog_2_method_3_code 4 = .ok (.aload_n 0, 1) := by decide +kernel
theorem d_Cl_change_5 : decode prog_2_method_3_code 5 = .ok (.getfield 32, 3) := by decide +kernel
theorem d_Cl_change_8 : decode prog_2_method_3_code 8 = .ok (.iadd, 1) := by decide +kernel
theorem d_Cl_change_9 : decode prog_2_method_3_code 9 = .ok (.aload_n 0, 1) := by decide +kernel
theorem d_Cl_change_10 : decode prog_2_method_3_code 10 = .ok (.getfield 35, 3) := by decide +kernel
theorem d_Cl_change_13 : decode prog_2_method_3_code 13 = .ok (.isub, 1) := by decide +kernel
theorem d_Cl_change_14 : decode prog_2_method_3_code 14 = .ok (.istore_n 1, 1) := by decide +kernel
theorem d_Cl_change_15 : decode prog_2_method_3_code 15 = .ok (.iload_n 1, 1) := by decide +kernel
theorem d_Cl_change_16 : decode prog_2_method_3_code 16 = .ok (.ifCond .gt 5, 3) := by decide +kernel
theorem d_Cl_change_19 : decode prog_2_method_3_code 19 = .ok (.iconst 0, 1) := by decide +kernel
theorem d_Cl_change_20 : decode prog_2_method_3_code 20 = .ok (.ireturn, 1) := by decide +kernel
theorem d_Cl_change_21 : decode prog_2_method_3_code 21 = .ok (.sipush 1000, 3) := by decide +kernel
theorem d_Cl_change_24 : decode prog_2_method_3_code 24 = .ok (.aload_n 0, 1) := by decide +kernel
theorem d_Cl_change_25 : decode prog_2_method_3_code 25 = .ok (.getfield 29, 3) := by decide +kernel
theorem d_Cl_change_28 : decode prog_2_method_3_code 28 = .ok (.aload_n 0, 1) := by decide +kernel
theorem d_Cl_change_29 : decode prog_2_method_3_code 29 = .ok (.getfield 38, 3) := by decide +kernel
theorem d_Cl_change_32 : decode prog_2_method_3_code 32 = .ok (.isub, 1) := by decide +kernel
theorem d_Cl_change_33 : decode prog_2_method_3_code 33 = .ok (.imul, 1) := by decide +kernel
theorem d_Cl_change_34 : decode prog_2_method_3_code 34 = .ok (.iload_n 1, 1) := by decide +kernel
theorem d_Cl_change_35 : decode prog_2_method_3_code 35 = .ok (.idiv, 1) := by decide +kernel
theorem d_Cl_change_36 : decode prog_2_method_3_code 36 = .ok (.istore_n 2, 1) := by decide +kernel
theorem d_Cl_change_37 : decode prog_2_method_3_code 37 = .ok (.iload_n 2, 1) := by decide +kernel
theorem d_Cl_change_38 : decode prog_2_method_3_code 38 = .ok (.aload_n 0, 1) := by decide +kernel
theorem d_Cl_change_39 : decode prog_2_method_3_code 39 = .ok (.getfield 41, 3) := by decide +kernel
theorem d_Cl_change_42 : decode prog_2_method_3_code 42 = .ok (.if_icmp .ge 19, 3) := by decide +kernel
theorem d_Cl_change_45 : decode prog_2_method_3_code 45 = .ok (.aload_n 0, 1) := by decide +kernel
theorem d_Cl_change_46 : decode prog_2_method_3_code 46 = .ok (.aload_n 0, 1) := by decide +kernel
theorem d_Cl_change_47 : decode prog_2_method_3_code 47 = .ok (.getfield 7, 3) := by decide +kernel
theorem d_Cl_change_50 : decode prog_2_method_3_code 50 = .ok (.ifCond .ne 7, 3) := by decide +kernel
theorem d_Cl_change_53 : decode prog_2_method_3_code 53 = .ok (.iconst 1, 1) := by decide +kernel
theorem d_Cl_change_54 : decode prog_2_method_3_code 54 = .ok (.goto 4, 3) := by decide +kernel
theorem d_Cl_change_57 : decode prog_2_method_3_code 57 = .ok (.iconst 0, 1) := by decide +kernel
theorem d_Cl_change_58 : decode prog_2_method_3_code 58 = .ok (.putfield 7, 3) := by decide +kernel
theorem d_Cl_change_61 : decode prog_2_method_3_code 61 = .ok (.aload_n 0, 1) := by decide +kernel
theorem d_Cl_change_62 : decode prog_2_method_3_code 62 = .ok (.getfield 7, 3) := by decide +kernel
theorem d_Cl_change_65 : decode prog_2_method_3_code 65 = .ok (.ifCond .eq 10, 3) := by decide +kernel
theorem d_Cl_change_68 : decode prog_2_method_3_code 68 = .ok (.aload_n 0, 1) := by decide +kernel
theorem d_Cl_change_69 : decode prog_2_method_3_code 69 = .ok (.getfield 26, 3) := by decide +kernel
theorem d_Cl_change_72 : decode prog_2_method_3_code 72 = .ok (.goto 8, 3) := by decide +kernel
theorem d_Cl_change_75 : decode prog_2_method_3_code 75 = .ok (.aload_n 0, 1) := by decide +kernel
theorem d_Cl_change_76 : decode prog_2_method_3_code 76 = .ok (.getfield 26, 3) := by decide +kernel
theorem d_Cl_change_79 : decode prog_2_method_3_code 79 = .ok (.ineg, 1) := by decide +kernel
theorem d_Cl_change_80 : decode prog_2_method_3_code 80 = .ok (.istore_n 3, 1) := by decide +kernel
theorem d_Cl_change_81 : decode prog_2_method_3_code 81 = .ok (.iload_n 2, 1) := by decide +kernel
theorem d_Cl_change_82 : decode prog_2_method_3_code 82 = .ok (.aload_n 0, 1) := by decide +kernel
theorem d_Cl_change_83 : decode prog_2_method_3_code 83 = .ok (.getfield 41, 3) := by decide +kernel
theorem d_Cl_change_86 : decode prog_2_method_3_code 86 = .ok (.isub, 1) := by decide +kernel
theorem d_Cl_change_87 : decode prog_2_method_3_code 87 = .ok (.invokestatic 44, 3) := by decide +kernel
theorem d_Cl_change_90 : decode prog_2_method_3_code 90 = .ok (.bipush 50, 2) := by decide +kernel
theorem d_Cl_change_92 : decode prog_2_method_3_code 92 = .ok (.if_icmp .lt 7, 3) := by decide +kernel
theorem d_Cl_change_95 : decode prog_2_method_3_code 95 = .ok (.iconst 1, 1) := by decide +kernel
theorem d_Cl_change_96 : decode prog_2_method_3_code 96 = .ok (.goto 4, 3) := by decide +kernel
theorem d_Cl_change_99 : decode prog_2_method_3_code 99 = .ok (.iconst 0, 1) := by decide +kernel
theorem d_Cl_change_100 : decode prog_2_method_3_code 100 = .ok (.istore 4, 2) := by decide +kernel
theorem d_Cl_change_102 : decode prog_2_method_3_code 102 = .ok (.aload_n 0, 1) := by decide +kernel
theorem d_Cl_change_103 : decode prog_2_method_3_code 103 = .ok (.iload 4, 2) := by decide +kernel
theorem d_Cl_change_105 : decode prog_2_method_3_code 105 = .ok (.ifCond .eq 10, 3) := by decide +kernel
theorem d_Cl_change_108 : decode prog_2_method_3_code 108 = .ok (.aload_n 0, 1) := by decide +kernel
theorem d_Cl_change_109 : decode prog_2_method_3_code 109 = .ok (.getfield 23, 3) := by decide +kernel
theorem d_Cl_change_112 : decode prog_2_method_3_code 112 = .ok (.goto 17, 3) := by decide +kernel
theorem d_Cl_change_115 : decode prog_2_method_3_code 115 = .ok (.iconst 1, 1) := by decide +kernel
theorem d_Cl_change_116 : decode prog_2_method_3_code 116 = .ok (.aload_n 0, 1) := by decide +kernel
theorem d_Cl_change_117 : decode prog_2_method_3_code 117 = .ok (.getfield 26, 3) := by decide +kernel
theorem d_Cl_change_120 : decode prog_2_method_3_code 120 = .ok (.bipush 63, 2) := by decide +kernel
theorem d_Cl_change_122 : decode prog_2_method_3_code 122 = .ok (.imul, 1) := by decide +kernel
theorem d_Cl_change_123 : decode prog_2_method_3_code 123 = .ok (.bipush 64, 2) := by decide +kernel
theorem d_Cl_change_125 : decode prog_2_method_3_code 125 = .ok (.idiv, 1) := by decide +kernel
theorem d_Cl_change_126 : decode prog_2_method_3_code 126 = .ok (.invokestatic 17, 3) := by decide +kernel
theorem d_Cl_change_129 : decode prog_2_method_3_code 129 = .ok (.putfield 26, 3) := by decide +kernel
theorem d_Cl_change_132 : decode prog_2_method_3_code 132 = .ok (.aload_n 0, 1) := by decide +kernel
theorem d_Cl_change_133 : decode prog_2_method_3_code 133 = .ok (.iload_n 2, 1) := by decide +kernel
theorem d_Cl_change_134 : decode prog_2_method_3_code 134 = .ok (.putfield 41, 3) := by decide +kernel
theorem d_Cl_change_137 : decode prog_2_method_3_code 137 = .ok (.aload_n 0, 1) := by decide +kernel
theorem d_Cl_change_138 : decode prog_2_method_3_code 138 = .ok (.aload_n 0, 1) := by decide +kernel
theorem d_Cl_change_139 : decode prog_2_method_3_code 139 = .ok (.getfield 29, 3) := by decide +kernel
theorem d_Cl_change_142 : decode prog_2_method_3_code 142 = .ok (.putfield 38, 3) := by decide +kernel
theorem d_Cl_change_145 : decode prog_2_method_3_code 145 = .ok (.aload_n 0, 1) := by decide +kernel
theorem d_Cl_change_146 : decode prog_2_method_3_code 146 = .ok (.aload_n 0, 1) := by decide +kernel
theorem d_Cl_change_147 : decode prog_2_method_3_code 147 = .ok (.getfield 29, 3) := by decide +kernel
theorem d_Cl_change_150 : decode prog_2_method_3_code 150 = .ok (.aload_n 0, 1) := by decide +kernel
theorem d_Cl_change_151 : decode prog_2_method_3_code 151 = .ok (.getfield 32, 3) := by decide +kernel
theorem d_Cl_change_154 : decode prog_2_method_3_code 154 = .ok (.iadd, 1) := by decide +kernel
theorem d_Cl_change_155 : decode prog_2_method_3_code 155 = .ok (.putfield 35, 3) := by decide +kernel
theorem d_Cl_change_158 : decode prog_2_method_3_code 158 = .ok (.iload_n 3, 1) := by decide +kernel
theorem d_Cl_change_159 : decode prog_2_method_3_code 159 = .ok (.ireturn, 1) := by decide +kernel
def y_Lo_told : MethodName := ⟨"WindowCache$Log", "told", "(II)I"⟩
theorem y_Lo_told_ok : y_Lo_told.cls ≠ "java/lang/invoke/MethodHandle" ∧ y_Lo_told.cls ≠ "java/lang/invoke/VarHandle" ∧ (parseMethodDescriptor y_Lo_told.desc).map (fun d => d.parameters.length) = some 2 := by decide +kernel
def rm_Lo_told : Room := { frames := 0, cells := 0, slots := 0, locals := 0 }
theorem d_Lo_told_0 : decode prog_6_method_3_code 0 = .ok (.iload_n 1, 1) := by decide +kernel
theorem d_Lo_told_1 : decode prog_6_method_3_code 1 = .ok (.ifCond .lt 11, 3) := by decide +kernel
theorem d_Lo_told_4 : decode prog_6_method_3_code 4 = .ok (.iload_n 1, 1) := by decide +kernel
theorem d_Lo_told_5 : decode prog_6_method_3_code 5 = .ok (.aload_n 0, 1) := by decide +kernel
theorem d_Lo_told_6 : decode prog_6_method_3_code 6 = .ok (.getfield 21, 3) := by decide +kernel
theorem d_Lo_told_9 : decode prog_6_method_3_code 9 = .ok (.if_icmp .lt 5, 3) := by decide +kernel
theorem d_Lo_told_12 : decode prog_6_method_3_code 12 = .ok (.iconst (-1), 1) := by decide +kernel
theorem d_Lo_told_13 : decode prog_6_method_3_code 13 = .ok (.ireturn, 1) := by decide +kernel
theorem d_Lo_told_14 : decode prog_6_method_3_code 14 = .ok (.iload_n 2, 1) := by decide +kernel
theorem d_Lo_told_15 : decode prog_6_method_3_code 15 = .ok (.tableswitch 46 0 2 #[25, 32, 39], 25) := by decide +kernel
theorem d_Lo_told_40 : decode prog_6_method_3_code 40 = .ok (.aload_n 0, 1) := by decide +kernel
theorem d_Lo_told_41 : decode prog_6_method_3_code 41 = .ok (.getfield 11, 3) := by decide +kernel
theorem d_Lo_told_44 : decode prog_6_method_3_code 44 = .ok (.iload_n 1, 1) := by decide +kernel
theorem d_Lo_told_45 : decode prog_6_method_3_code 45 = .ok (.iaload, 1) := by decide +kernel
theorem d_Lo_told_46 : decode prog_6_method_3_code 46 = .ok (.ireturn, 1) := by decide +kernel
theorem d_Lo_told_47 : decode prog_6_method_3_code 47 = .ok (.aload_n 0, 1) := by decide +kernel
theorem d_Lo_told_48 : decode prog_6_method_3_code 48 = .ok (.getfield 15, 3) := by decide +kernel
theorem d_Lo_told_51 : decode prog_6_method_3_code 51 = .ok (.iload_n 1, 1) := by decide +kernel
theorem d_Lo_told_52 : decode prog_6_method_3_code 52 = .ok (.iaload, 1) := by decide +kernel
theorem d_Lo_told_53 : decode prog_6_method_3_code 53 = .ok (.ireturn, 1) := by decide +kernel
theorem d_Lo_told_54 : decode prog_6_method_3_code 54 = .ok (.aload_n 0, 1) := by decide +kernel
theorem d_Lo_told_55 : decode prog_6_method_3_code 55 = .ok (.getfield 18, 3) := by decide +kernel
theorem d_Lo_told_58 : decode prog_6_method_3_code 58 = .ok (.iload_n 1, 1) := by decide +kernel
theorem d_Lo_told_59 : decode prog_6_method_3_code 59 = .ok (.iaload, 1) := by decide +kernel
theorem d_Lo_told_60 : decode prog_6_method_3_code 60 = .ok (.ireturn, 1) := by decide +kernel
theorem d_Lo_told_61 : decode prog_6_method_3_code 61 = .ok (.iconst (-1), 1) := by decide +kernel
theorem d_Lo_told_62 : decode prog_6_method_3_code 62 = .ok (.ireturn, 1) := by decide +kernel
def y_Li_begin : MethodName := ⟨"WindowCache$Lives", "begin", "(LWindowCache$Entry;I)V"⟩
theorem y_Li_begin_ok : y_Li_begin.cls ≠ "java/lang/invoke/MethodHandle" ∧ y_Li_begin.cls ≠ "java/lang/invoke/VarHandle" ∧ (parseMethodDescriptor y_Li_begin.desc).map (fun d => d.parameters.length) = some 2 := by decide +kernel
def rm_Li_begin : Room := { frames := 2, cells := 0, slots := 0, locals := 45 }
theorem d_Li_begin_0 : decode prog_5_method_2_code 0 = .ok (.iload_n 2, 1) := by decide +kernel
theorem d_Li_begin_1 : decode prog_5_method_2_code 1 = .ok (.ifCond .le 7, 3) := by decide +kernel
theorem d_Li_begin_4 : decode prog_5_method_2_code 4 = .ok (.iload_n 2, 1) := by decide +kernel
theorem d_Li_begin_5 : decode prog_5_method_2_code 5 = .ok (.goto 7, 3) := by decide +kernel
theorem d_Li_begin_8 : decode prog_5_method_2_code 8 = .ok (.aload_n 0, 1) := by decide +kernel
theorem d_Li_begin_9 : decode prog_5_method_2_code 9 = .ok (.getfield 9, 3) := by decide +kernel
theorem d_Li_begin_12 : decode prog_5_method_2_code 12 = .ok (.istore_n 3, 1) := by decide +kernel
theorem d_Li_begin_13 : decode prog_5_method_2_code 13 = .ok (.aload_n 1, 1) := by decide +kernel
theorem d_Li_begin_14 : decode prog_5_method_2_code 14 = .ok (.iload_n 3, 1) := by decide +kernel
theorem d_Li_begin_15 : decode prog_5_method_2_code 15 = .ok (.ifCond .le 13, 3) := by decide +kernel
theorem d_Li_begin_18 : decode prog_5_method_2_code 18 = .ok (.aload_n 0, 1) := by decide +kernel
theorem d_Li_begin_19 : decode prog_5_method_2_code 19 = .ok (.getfield 18, 3) := by decide +kernel
theorem d_Li_begin_22 : decode prog_5_method_2_code 22 = .ok (.iload_n 3, 1) := by decide +kernel
theorem d_Li_begin_23 : decode prog_5_method_2_code 23 = .ok (.i2l, 1) := by decide +kernel
theorem d_Li_begin_24 : decode prog_5_method_2_code 24 = .ok (.ladd, 1) := by decide +kernel
theorem d_Li_begin_25 : decode prog_5_method_2_code 25 = .ok (.goto 6, 3) := by decide +kernel
theorem d_Li_begin_28 : decode prog_5_method_2_code 28 = .ok (.ldc2_w 22, 3) := by decide +kernel
theorem d_Li_begin_31 : decode prog_5_method_2_code 31 = .ok (.putfield 24, 3) := by decide +kernel
theorem d_Li_begin_34 : decode prog_5_method_2_code 34 = .ok (.aload_n 1, 1) := by decide +kernel
theorem d_Li_begin_35 : decode prog_5_method_2_code 35 = .ok (.iload_n 2, 1) := by decide +kernel
theorem d_Li_begin_36 : decode prog_5_method_2_code 36 = .ok (.ifCond .gt 14, 3) := by decide +kernel
theorem d_Li_begin_39 : decode prog_5_method_2_code 39 = .ok (.aload_n 0, 1) := by decide +kernel
theorem d_Li_begin_40 : decode prog_5_method_2_code 40 = .ok (.getfield 15, 3) := by decide +kernel
theorem d_Li_begin_43 : decode prog_5_method_2_code 43 = .ok (.ifCond .le 7, 3) := by decide +kernel
theorem d_Li_begin_46 : decode prog_5_method_2_code 46 = .ok (.iconst 1, 1) := by decide +kernel
theorem d_Li_begin_47 : decode prog_5_method_2_code 47 = .ok (.goto 4, 3) := by decide +kernel
theorem d_Li_begin_50 : decode prog_5_method_2_code 50 = .ok (.iconst 0, 1) := by decide +kernel
theorem d_Li_begin_51 : decode prog_5_method_2_code 51 = .ok (.putfield 29, 3) := by decide +kernel
theorem d_Li_begin_54 : decode prog_5_method_2_code 54 = .ok (.aload_n 0, 1) := by decide +kernel
theorem d_Li_begin_55 : decode prog_5_method_2_code 55 = .ok (.aload_n 1, 1) := by decide +kernel
theorem d_Li_begin_56 : decode prog_5_method_2_code 56 = .ok (.invokevirtual 33, 3) := by decide +kernel
theorem d_Li_begin_59 : decode prog_5_method_2_code 59 = .ok (.return_, 1) := by decide +kernel
