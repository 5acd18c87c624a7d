def y_Ro_init : MethodName := ⟨"WindowCache$Room", "<init>", "()V"⟩
theorem y_Ro_init_ok : y_Ro_init.cls ≠ "java/lang/invoke/MethodHandle" ∧ y_Ro_init.cls ≠ "java/lang/invoke/VarHandle" ∧ (parseMethodDescriptor y_Ro_init.desc).map (fun d => d.parameters.length) = some 0 := by decide +kernel
def rm_Ro_init : Room := { frames := 1, cells := 0, slots := 0, locals := 24 }
theorem d_Ro_init_0 : decode prog_8_method_1_code 0 = .ok (.aload_n 0, 1) := by decide +kernel
theorem d_Ro_init_1 : decode prog_8_method_1_code 1 = .ok (.invokespecial 3, 3) := by decide +kernel
theorem d_Ro_init_4 : decode prog_8_method_1_code 4 = .ok (.return_, 1) := by decide +kernel
def y_Ro_cutOut : MethodName := ⟨"WindowCache$Room", "cutOut", "(LWindowCache$Entry;)V"⟩
theorem y_Ro_cutOut_ok : y_Ro_cutOut.cls ≠ "java/lang/invoke/MethodHandle" ∧ y_Ro_cutOut.cls ≠ "java/lang/invoke/VarHandle" ∧ (parseMethodDescriptor y_Ro_cutOut.desc).map (fun d => d.parameters.length) = some 1 := by decide +kernel
def rm_Ro_cutOut : Room := { frames := 0, cells := 0, slots := 0, locals := 0 }
theorem d_Ro_cutOut_0 : decode prog_8_method_3_code 0 = .ok (.aload_n 1, 1) := by decide +kernel
theorem d_Ro_cutOut_1 : decode prog_8_method_3_code 1 = .ok (.getfield 21, 3) := by decide +kernel
theorem d_Ro_cutOut_4 : decode prog_8_method_3_code 4 = .ok (.ifnonnull 14, 3) := by decide +kernel
theorem d_Ro_cutOut_7 : decode prog_8_method_3_code 7 = .ok (.aload_n 0, 1) := by decide +kernel
theorem d_Ro_cutOut_8 : decode prog_8_method_3_code 8 = .ok (.aload_n 1, 1) := by decide +kernel
theorem d_Ro_cutOut_9 : decode prog_8_method_3_code 9 = .ok (.getfield 24, 3) := by decide +kernel
theorem d_Ro_cutOut_12 : decode prog_8_method_3_code 12 = .ok (.putfield 27, 3) := by decide +kernel
theorem d_Ro_cutOut_15 : decode prog_8_method_3_code 15 = .ok (.goto 14, 3) := by decide +kernel
theorem d_Ro_cutOut_18 : decode prog_8_method_3_code 18 = .ok (.aload_n 1, 1) := by decide +kernel
theorem d_Ro_cutOut_19 : decode prog_8_method_3_code 19 = .ok (.getfield 21, 3) := by decide +kernel
theorem d_Ro_cutOut_22 : decode prog_8_method_3_code 22 = .ok (.aload_n 1, 1) := by decide +kernel
theorem d_Ro_cutOut_23 : decode prog_8_method_3_code 23 = .ok (.getfield 24, 3) := by decide +kernel
theorem d_Ro_cutOut_26 : decode prog_8_method_3_code 26 = .ok (.putfield 24, 3) := by decide +kernel
theorem d_Ro_cutOut_29 : decode prog_8_method_3_code 29 = .ok (.aload_n 1, 1) := by decide +kernel
theorem d_Ro_cutOut_30 : decode prog_8_method_3_code 30 = .ok (.getfield 24, 3) := by decide +kernel
theorem d_Ro_cutOut_33 : decode prog_8_method_3_code 33 = .ok (.ifnonnull 14, 3) := by decide +kernel
theorem d_Ro_cutOut_36 : decode prog_8_method_3_code 36 = .ok (.aload_n 0, 1) := by decide +kernel
theorem d_Ro_cutOut_37 : decode prog_8_method_3_code 37 = .ok (.aload_n 1, 1) := by decide +kernel
theorem d_Ro_cutOut_38 : decode prog_8_method_3_code 38 = .ok (.getfield 21, 3) := by decide +kernel
theorem d_Ro_cutOut_41 : decode prog_8_method_3_code 41 = .ok (.putfield 15, 3) := by decide +kernel
theorem d_Ro_cutOut_44 : decode prog_8_method_3_code 44 = .ok (.goto 14, 3) := by decide +kernel
theorem d_Ro_cutOut_47 : decode prog_8_method_3_code 47 = .ok (.aload_n 1, 1) := by decide +kernel
theorem d_Ro_cutOut_48 : decode prog_8_method_3_code 48 = .ok (.getfield 24, 3) := by decide +kernel
theorem d_Ro_cutOut_51 : decode prog_8_method_3_code 51 = .ok (.aload_n 1, 1) := by decide +kernel
theorem d_Ro_cutOut_52 : decode prog_8_method_3_code 52 = .ok (.getfield 21, 3) := by decide +kernel
theorem d_Ro_cutOut_55 : decode prog_8_method_3_code 55 = .ok (.putfield 21, 3) := by decide +kernel
theorem d_Ro_cutOut_58 : decode prog_8_method_3_code 58 = .ok (.aload_n 1, 1) := by decide +kernel
theorem d_Ro_cutOut_59 : decode prog_8_method_3_code 59 = .ok (.aconst_null, 1) := by decide +kernel
theorem d_Ro_cutOut_60 : decode prog_8_method_3_code 60 = .ok (.putfield 9, 3) := by decide +kernel
theorem d_Ro_cutOut_63 : decode prog_8_method_3_code 63 = .ok (.aload_n 1, 1) := by decide +kernel
theorem d_Ro_cutOut_64 : decode prog_8_method_3_code 64 = .ok (.aconst_null, 1) := by decide +kernel
theorem d_Ro_cutOut_65 : decode prog_8_method_3_code 65 = .ok (.putfield 21, 3) := by decide +kernel
theorem d_Ro_cutOut_68 : decode prog_8_method_3_code 68 = .ok (.aload_n 1, 1) := by decide +kernel
theorem d_Ro_cutOut_69 : decode prog_8_method_3_code 69 = .ok (.aconst_null, 1) := by decide +kernel
theorem d_Ro_cutOut_70 : decode prog_8_method_3_code 70 = .ok (.putfield 24, 3) := by decide +kernel
theorem d_Ro_cutOut_73 : decode prog_8_method_3_code 73 = .ok (.aload_n 0, 1) := by decide +kernel
theorem d_Ro_cutOut_74 : decode prog_8_method_3_code 74 = .ok (.dup, 1) := by decide +kernel
theorem d_Ro_cutOut_75 : decode prog_8_method_3_code 75 = .ok (.getfield 30, 3) := by decide +kernel
theorem d_Ro_cutOut_78 : decode prog_8_method_3_code 78 = .ok (.aload_n 1, 1) := by decide +kernel
theorem d_Ro_cutOut_79 : decode prog_8_method_3_code 79 = .ok (.getfield 34, 3) := by decide +kernel
theorem d_Ro_cutOut_82 : decode prog_8_method_3_code 82 = .ok (.isub, 1) := by decide +kernel
theorem d_Ro_cutOut_83 : decode prog_8_method_3_code 83 = .ok (.putfield 30, 3) := by decide +kernel
theorem d_Ro_cutOut_86 : decode prog_8_method_3_code 86 = .ok (.aload_n 0, 1) := by decide +kernel
theorem d_Ro_cutOut_87 : decode prog_8_method_3_code 87 = .ok (.dup, 1) := by decide +kernel
theorem d_Ro_cutOut_88 : decode prog_8_method_3_code 88 = .ok (.getfield 35, 3) := by decide +kernel
theorem d_Ro_cutOut_91 : decode prog_8_method_3_code 91 = .ok (.iconst 1, 1) := by decide +kernel
theorem d_Ro_cutOut_92 : decode prog_8_method_3_code 92 = .ok (.isub, 1) := by decide +kernel
theorem d_Ro_cutOut_93 : decode prog_8_method_3_code 93 = .ok (.putfield 35, 3) := by decide +kernel
theorem d_Ro_cutOut_96 : decode prog_8_method_3_code 96 = .ok (.return_, 1) := by decide +kernel
def y_Ro_addLatest : MethodName := ⟨"WindowCache$Room", "addLatest", "(LWindowCache$Entry;)V"⟩
theorem y_Ro_addLatest_ok : y_Ro_addLatest.cls ≠ "java/lang/invoke/MethodHandle" ∧ y_Ro_addLatest.cls ≠ "java/lang/invoke/VarHandle" ∧ (parseMethodDescriptor y_Ro_addLatest.desc).map (fun d => d.parameters.length) = some 1 := by decide +kernel
def rm_Ro_addLatest : Room := { frames := 0, cells := 0, slots := 0, locals := 0 }
theorem d_Ro_addLatest_0 : decode prog_8_method_2_code 0 = .ok (.aload_n 1, 1) := by decide +kernel
theorem d_Ro_addLatest_1 : decode prog_8_method_2_code 1 = .ok (.aload_n 0, 1) := by decide +kernel
theorem d_Ro_addLatest_2 : decode prog_8_method_2_code 2 = .ok (.putfield 9, 3) := by decide +kernel
theorem d_Ro_addLatest_5 : decode prog_8_method_2_code 5 = .ok (.aload_n 1, 1) := by decide +kernel
theorem d_Ro_addLatest_6 : decode prog_8_method_2_code 6 = .ok (.aload_n 0, 1) := by decide +kernel
theorem d_Ro_addLatest_7 : decode prog_8_method_2_code 7 = .ok (.getfield 15, 3) := by decide +kernel
theorem d_Ro_addLatest_10 : decode prog_8_method_2_code 10 = .ok (.putfield 21, 3) := by decide +kernel
theorem d_Ro_addLatest_13 : decode prog_8_method_2_code 13 = .ok (.aload_n 1, 1) := by decide +kernel
theorem d_Ro_addLatest_14 : decode prog_8_method_2_code 14 = .ok (.aconst_null, 1) := by decide +kernel
theorem d_Ro_addLatest_15 : decode prog_8_method_2_code 15 = .ok (.putfield 24, 3) := by decide +kernel
theorem d_Ro_addLatest_18 : decode prog_8_method_2_code 18 = .ok (.aload_n 0, 1) := by decide +kernel
theorem d_Ro_addLatest_19 : decode prog_8_method_2_code 19 = .ok (.getfield 15, 3) := by decide +kernel
theorem d_Ro_addLatest_22 : decode prog_8_method_2_code 22 = .ok (.ifnonnull 11, 3) := by decide +kernel
theorem d_Ro_addLatest_25 : decode prog_8_method_2_code 25 = .ok (.aload_n 0, 1) := by decide +kernel
theorem d_Ro_addLatest_26 : decode prog_8_method_2_code 26 = .ok (.aload_n 1, 1) := by decide +kernel
theorem d_Ro_addLatest_27 : decode prog_8_method_2_code 27 = .ok (.putfield 27, 3) := by decide +kernel
theorem d_Ro_addLatest_30 : decode prog_8_method_2_code 30 = .ok (.goto 11, 3) := by decide +kernel
theorem d_Ro_addLatest_33 : decode prog_8_method_2_code 33 = .ok (.aload_n 0, 1) := by decide +kernel
theorem d_Ro_addLatest_34 : decode prog_8_method_2_code 34 = .ok (.getfield 15, 3) := by decide +kernel
theorem d_Ro_addLatest_37 : decode prog_8_method_2_code 37 = .ok (.aload_n 1, 1) := by decide +kernel
theorem d_Ro_addLatest_38 : decode prog_8_method_2_code 38 = .ok (.putfield 24, 3) := by decide +kernel
theorem d_Ro_addLatest_41 : decode prog_8_method_2_code 41 = .ok (.aload_n 0, 1) := by decide +kernel
theorem d_Ro_addLatest_42 : decode prog_8_method_2_code 42 = .ok (.aload_n 1, 1) := by decide +kernel
theorem d_Ro_addLatest_43 : decode prog_8_method_2_code 43 = .ok (.putfield 15, 3) := by decide +kernel
theorem d_Ro_addLatest_46 : decode prog_8_method_2_code 46 = .ok (.aload_n 0, 1) := by decide +kernel
theorem d_Ro_addLatest_47 : decode prog_8_method_2_code 47 = .ok (.dup, 1) := by decide +kernel
theorem d_Ro_addLatest_48 : decode prog_8_method_2_code 48 = .ok (.getfield 30, 3) := by decide +kernel
theorem d_Ro_addLatest_51 : decode prog_8_method_2_code 51 = .ok (.aload_n 1, 1) := by decide +kernel
theorem d_Ro_addLatest_52 : decode prog_8_method_2_code 52 = .ok (.getfield 34, 3) := by decide +kernel
theorem d_Ro_addLatest_55 : decode prog_8_method_2_code 55 = .ok (.iadd, 1) := by decide +kernel
theorem d_Ro_addLatest_56 : decode prog_8_method_2_code 56 = .ok (.putfield 30, 3) := by decide +kernel
theorem d_Ro_addLatest_59 : decode prog_8_method_2_code 59 = .ok (.aload_n 0, 1) := by decide +kernel
theorem d_Ro_addLatest_60 : decode prog_8_method_2_code 60 = .ok (.dup, 1) := by decide +kernel
theorem d_Ro_addLatest_61 : decode prog_8_method_2_code 61 = .ok (.getfield 35, 3) := by decide +kernel
theorem d_Ro_addLatest_64 : decode prog_8_method_2_code 64 = .ok (.iconst 1, 1) := by decide +kernel
theorem d_Ro_addLatest_65 : decode prog_8_method_2_code 65 = .ok (.iadd, 1) := by decide +kernel
theorem d_Ro_addLatest_66 : decode prog_8_method_2_code 66 = .ok (.putfield 35, 3) := by decide +kernel
theorem d_Ro_addLatest_69 : decode prog_8_method_2_code 69 = .ok (.return_, 1) := by decide +kernel
def y_Ro_goesBefore : MethodName := ⟨"WindowCache$Room", "goesBefore", "(LWindowCache$Entry;LWindowCache$Entry;)Z"⟩
theorem y_Ro_goesBefore_ok : y_Ro_goesBefore.cls ≠ "java/lang/invoke/MethodHandle" ∧ y_Ro_goesBefore.cls ≠ "java/lang/invoke/VarHandle" ∧ (parseMethodDescriptor y_Ro_goesBefore.desc).map (fun d => d.parameters.length) = some 2 := by decide +kernel
def rm_Ro_goesBefore : Room := { frames := 0, cells := 0, slots := 0, locals := 0 }
theorem d_Ro_goesBefore_0 : decode prog_8_method_6_code 0 = .ok (.aload_n 1, 1) := by decide +kernel
theorem d_Ro_goesBefore_1 : decode prog_8_method_6_code 1 = .ok (.ifnull 15, 3) := by decide +kernel
theorem d_Ro_goesBefore_4 : decode prog_8_method_6_code 4 = .ok (.aload_n 0, 1) := by decide +kernel
theorem d_Ro_goesBefore_5 : decode prog_8_method_6_code 5 = .ok (.getfield 41, 3) := by decide +kernel
theorem d_Ro_goesBefore_8 : decode prog_8_method_6_code 8 = .ok (.aload_n 1, 1) := by decide +kernel
theorem d_Ro_goesBefore_9 : decode prog_8_method_6_code 9 = .ok (.getfield 41, 3) := by decide +kernel
theorem d_Ro_goesBefore_12 : decode prog_8_method_6_code 12 = .ok (.lcmp, 1) := by decide +kernel
theorem d_Ro_goesBefore_13 : decode prog_8_method_6_code 13 = .ok (.ifCond .eq 25, 3) := by decide +kernel
theorem d_Ro_goesBefore_16 : decode prog_8_method_6_code 16 = .ok (.aload_n 1, 1) := by decide +kernel
theorem d_Ro_goesBefore_17 : decode prog_8_method_6_code 17 = .ok (.ifnull 15, 3) := by decide +kernel
theorem d_Ro_goesBefore_20 : decode prog_8_method_6_code 20 = .ok (.aload_n 0, 1) := by decide +kernel
theorem d_Ro_goesBefore_21 : decode prog_8_method_6_code 21 = .ok (.getfield 41, 3) := by decide +kernel
theorem d_Ro_goesBefore_24 : decode prog_8_method_6_code 24 = .ok (.aload_n 1, 1) := by decide +kernel
theorem d_Ro_goesBefore_25 : decode prog_8_method_6_code 25 = .ok (.getfield 41, 3) := by decide +kernel
theorem d_Ro_goesBefore_28 : decode prog_8_method_6_code 28 = .ok (.lcmp, 1) := by decide +kernel
theorem d_Ro_goesBefore_29 : decode prog_8_method_6_code 29 = .ok (.ifCond .ge 7, 3) := by decide +kernel
theorem d_Ro_goesBefore_32 : decode prog_8_method_6_code 32 = .ok (.iconst 1, 1) := by decide +kernel
theorem d_Ro_goesBefore_33 : decode prog_8_method_6_code 33 = .ok (.goto 4, 3) := by decide +kernel
theorem d_Ro_goesBefore_36 : decode prog_8_method_6_code 36 = .ok (.iconst 0, 1) := by decide +kernel
theorem d_Ro_goesBefore_37 : decode prog_8_method_6_code 37 = .ok (.ireturn, 1) := by decide +kernel
theorem d_Ro_goesBefore_38 : decode prog_8_method_6_code 38 = .ok (.aload_n 0, 1) := by decide +kernel
theorem d_Ro_goesBefore_39 : decode prog_8_method_6_code 39 = .ok (.getfield 38, 3) := by decide +kernel
theorem d_Ro_goesBefore_42 : decode prog_8_method_6_code 42 = .ok (.aload_n 1, 1) := by decide +kernel
theorem d_Ro_goesBefore_43 : decode prog_8_method_6_code 43 = .ok (.getfield 38, 3) := by decide +kernel
theorem d_Ro_goesBefore_46 : decode prog_8_method_6_code 46 = .ok (.if_icmp .ge 7, 3) := by decide +kernel
theorem d_Ro_goesBefore_49 : decode prog_8_method_6_code 49 = .ok (.iconst 1, 1) := by decide +kernel
theorem d_Ro_goesBefore_50 : decode prog_8_method_6_code 50 = .ok (.goto 4, 3) := by decide +kernel
theorem d_Ro_goesBefore_53 : decode prog_8_method_6_code 53 = .ok (.iconst 0, 1) := by decide +kernel
theorem d_Ro_goesBefore_54 : decode prog_8_method_6_code 54 = .ok (.ireturn, 1) := by decide +kernel
def y_Ro_firstOver : MethodName := ⟨"WindowCache$Room", "firstOver", "(JLWindowCache$Entry;)LWindowCache$Entry;"⟩
theorem y_Ro_firstOver_ok : y_Ro_firstOver.cls ≠ "java/lang/invoke/MethodHandle" ∧ y_Ro_firstOver.cls ≠ "java/lang/invoke/VarHandle" ∧ (parseMethodDescriptor y_Ro_firstOver.desc).map (fun d => d.parameters.length) = some 2 := by decide +kernel
def rm_Ro_firstOver : Room := { frames := 1, cells := 0, slots := 0, locals := 21 }
theorem d_Ro_firstOver_0 : decode prog_8_method_5_code 0 = .ok (.aload_n 3, 1) := by decide +kernel
theorem d_Ro_firstOver_1 : decode prog_8_method_5_code 1 = .ok (.astore 4, 2) := by decide +kernel
theorem d_Ro_firstOver_3 : decode prog_8_method_5_code 3 = .ok (.aload_n 0, 1) := by decide +kernel
theorem d_Ro_firstOver_4 : decode prog_8_method_5_code 4 = .ok (.getfield 27, 3) := by decide +kernel
theorem d_Ro_firstOver_7 : decode prog_8_method_5_code 7 = .ok (.astore 5, 2) := by decide +kernel
theorem d_Ro_firstOver_9 : decode prog_8_method_5_code 9 = .ok (.aload 5, 2) := by decide +kernel
theorem d_Ro_firstOver_11 : decode prog_8_method_5_code 11 = .ok (.ifnull 37, 3) := by decide +kernel
theorem d_Ro_firstOver_14 : decode prog_8_method_5_code 14 = .ok (.lload_n 1, 1) := by decide +kernel
theorem d_Ro_firstOver_15 : decode prog_8_method_5_code 15 = .ok (.aload 5, 2) := by decide +kernel
theorem d_Ro_firstOver_17 : decode prog_8_method_5_code 17 = .ok (.getfield 41, 3) := by decide +kernel
theorem d_Ro_firstOver_20 : decode prog_8_method_5_code 20 = .ok (.lcmp, 1) := by decide +kernel
theorem d_Ro_firstOver_21 : decode prog_8_method_5_code 21 = .ok (.ifCond .lt 17, 3) := by decide +kernel
theorem d_Ro_firstOver_24 : decode prog_8_method_5_code 24 = .ok (.aload 5, 2) := by decide +kernel
theorem d_Ro_firstOver_26 : decode prog_8_method_5_code 26 = .ok (.aload 4, 2) := by decide +kernel
theorem d_Ro_firstOver_28 : decode prog_8_method_5_code 28 = .ok (.invokestatic 45, 3) := by decide +kernel
theorem d_Ro_firstOver_31 : decode prog_8_method_5_code 31 = .ok (.ifCond .eq 7, 3) := by decide +kernel
theorem d_Ro_firstOver_34 : decode prog_8_method_5_code 34 = .ok (.aload 5, 2) := by decide +kernel
theorem d_Ro_firstOver_36 : decode prog_8_method_5_code 36 = .ok (.astore 4, 2) := by decide +kernel
theorem d_Ro_firstOver_38 : decode prog_8_method_5_code 38 = .ok (.aload 5, 2) := by decide +kernel
theorem d_Ro_firstOver_40 : decode prog_8_method_5_code 40 = .ok (.getfield 24, 3) := by decide +kernel
theorem d_Ro_firstOver_43 : decode prog_8_method_5_code 43 = .ok (.astore 5, 2) := by decide +kernel
theorem d_Ro_firstOver_45 : decode prog_8_method_5_code 45 = .ok (.goto (-36), 3) := by decide +kernel
theorem d_Ro_firstOver_48 : decode prog_8_method_5_code 48 = .ok (.aload 4, 2) := by decide +kernel
theorem d_Ro_firstOver_50 : decode prog_8_method_5_code 50 = .ok (.areturn, 1) := by decide +kernel
def y_Wa_init : MethodName := ⟨"WindowCache$Way", "<init>", "(LWindowCache$Entry;I)V"⟩
theorem y_Wa_init_ok : y_Wa_init.cls ≠ "java/lang/invoke/MethodHandle" ∧ y_Wa_init.cls ≠ "java/lang/invoke/VarHandle" ∧ (parseMethodDescriptor y_Wa_init.desc).map (fun d => d.parameters.length) = some 2 := by decide +kernel
def rm_Wa_init : Room := { frames := 1, cells := 0, slots := 0, locals := 24 }
theorem d_Wa_init_0 : decode prog_11_method_1_code 0 = .ok (.aload_n 0, 1) := by decide +kernel
theorem d_Wa_init_1 : decode prog_11_method_1_code 1 = .ok (.invokespecial 1, 3) := by decide +kernel
theorem d_Wa_init_4 : decode prog_11_method_1_code 4 = .ok (.aload_n 0, 1) := by decide +kernel
theorem d_Wa_init_5 : decode prog_11_method_1_code 5 = .ok (.aload_n 1, 1) := by decide +kernel
theorem d_Wa_init_6 : decode prog_11_method_1_code 6 = .ok (.putfield 7, 3) := by decide +kernel
theorem d_Wa_init_9 : decode prog_11_method_1_code 9 = .ok (.aload_n 0, 1) := by decide +kernel
theorem d_Wa_init_10 : decode prog_11_method_1_code 10 = .ok (.iload_n 2, 1) := by decide +kernel
theorem d_Wa_init_11 : decode prog_11_method_1_code 11 = .ok (.putfield 13, 3) := by decide +kernel
theorem d_Wa_init_14 : decode prog_11_method_1_code 14 = .ok (.return_, 1) := by decide +kernel
def y_Ro_keyAt : MethodName := ⟨"WindowCache$Room", "keyAt", "(I)I"⟩
theorem y_Ro_keyAt_ok : y_Ro_keyAt.cls ≠ "java/lang/invoke/MethodHandle" ∧ y_Ro_keyAt.cls ≠ "java/lang/invoke/VarHandle" ∧ (parseMethodDescriptor y_Ro_keyAt.desc).map (fun d => d.parameters.length) = some 1 := by decide +kernel
def rm_Ro_keyAt : Room := { frames := 0, cells := 0, slots := 0, locals := 0 }
theorem d_Ro_keyAt_0 : decode prog_8_method_4_code 0 = .ok (.iload_n 1, 1) := by decide +kernel
theorem d_Ro_keyAt_1 : decode prog_8_method_4_code 1 = .ok (.ifCond .lt 11, 3) := by decide +kernel
theorem d_Ro_keyAt_4 : decode prog_8_method_4_code 4 = .ok (.iload_n 1, 1) := by decide +kernel
theorem d_Ro_keyAt_5 : decode prog_8_method_4_code 5 = .ok (.aload_n 0, 1) := by decide +kernel
theorem d_Ro_keyAt_6 : decode prog_8_method_4_code 6 = .ok (.getfield 35, 3) := by decide +kernel
theorem d_Ro_keyAt_9 : decode prog_8_method_4_code 9 = .ok (.if_icmp .lt 5, 3) := by decide +kernel
theorem d_Ro_keyAt_12 : decode prog_8_method_4_code 12 = .ok (.iconst (-1), 1) := by decide +kernel
theorem d_Ro_keyAt_13 : decode prog_8_method_4_code 13 = .ok (.ireturn, 1) := by decide +kernel
theorem d_Ro_keyAt_14 : decode prog_8_method_4_code 14 = .ok (.iconst 0, 1) := by decide +kernel
theorem d_Ro_keyAt_15 : decode prog_8_method_4_code 15 = .ok (.istore_n 2, 1) := by decide +kernel
theorem d_Ro_keyAt_16 : decode prog_8_method_4_code 16 = .ok (.aload_n 0, 1) := by decide +kernel
theorem d_Ro_keyAt_17 : decode prog_8_method_4_code 17 = .ok (.getfield 27, 3) := by decide +kernel
theorem d_Ro_keyAt_20 : decode prog_8_method_4_code 20 = .ok (.astore_n 3, 1) := by decide +kernel
theorem d_Ro_keyAt_21 : decode prog_8_method_4_code 21 = .ok (.aload_n 3, 1) := by decide +kernel
theorem d_Ro_keyAt_22 : decode prog_8_method_4_code 22 = .ok (.ifnull 24, 3) := by decide +kernel
theorem d_Ro_keyAt_25 : decode prog_8_method_4_code 25 = .ok (.iload_n 2, 1) := by decide +kernel
theorem d_Ro_keyAt_26 : decode prog_8_method_4_code 26 = .ok (.iload_n 1, 1) := by decide +kernel
theorem d_Ro_keyAt_27 : decode prog_8_method_4_code 27 = .ok (.if_icmp .ne 8, 3) := by decide +kernel
theorem d_Ro_keyAt_30 : decode prog_8_method_4_code 30 = .ok (.aload_n 3, 1) := by decide +kernel
theorem d_Ro_keyAt_31 : decode prog_8_method_4_code 31 = .ok (.getfield 38, 3) := by decide +kernel
theorem d_Ro_keyAt_34 : decode prog_8_method_4_code 34 = .ok (.ireturn, 1) := by decide +kernel
theorem d_Ro_keyAt_35 : decode prog_8_method_4_code 35 = .ok (.iinc 2 1, 3) := by decide +kernel
theorem d_Ro_keyAt_38 : decode prog_8_method_4_code 38 = .ok (.aload_n 3, 1) := by decide +kernel
theorem d_Ro_keyAt_39 : decode prog_8_method_4_code 39 = .ok (.getfield 24, 3) := by decide +kernel
theorem d_Ro_keyAt_42 : decode prog_8_method_4_code 42 = .ok (.astore_n 3, 1) := by decide +kernel
theorem d_Ro_keyAt_43 : decode prog_8_method_4_code 43 = .ok (.goto (-22), 3) := by decide +kernel
theorem d_Ro_keyAt_46 : decode prog_8_method_4_code 46 = .ok (.iconst (-1), 1) := by decide +kernel
theorem d_Ro_keyAt_47 : decode prog_8_method_4_code 47 = .ok (.ireturn, 1) := by decide +kernel
def y_En_init : MethodName := ⟨"WindowCache$Entry", "<init>", "(I)V"⟩
theorem y_En_init_ok : y_En_init.cls ≠ "java/lang/invoke/MethodHandle" ∧ y_En_init.cls ≠ "java/lang/invoke/VarHandle" ∧ (parseMethodDescriptor y_En_init.desc).map (fun d => d.parameters.length) = some 1 := by decide +kernel
def rm_En_init : Room := { frames := 1, cells := 0, slots := 0, locals := 24 }
theorem d_En_init_0 : decode prog_4_method_1_code 0 = .ok (.aload_n 0, 1) := by decide +kernel
theorem d_En_init_1 : decode prog_4_method_1_code 1 = .ok (.invokespecial 1, 3) := by decide +kernel
theorem d_En_init_4 : decode prog_4_method_1_code 4 = .ok (.aload_n 0, 1) := by decide +kernel
theorem d_En_init_5 : decode prog_4_method_1_code 5 = .ok (.iload_n 1, 1) := by decide +kernel
theorem d_En_init_6 : decode prog_4_method_1_code 6 = .ok (.putfield 7, 3) := by decide +kernel
theorem d_En_init_9 : decode prog_4_method_1_code 9 = .ok (.return_, 1) := by decide +kernel
