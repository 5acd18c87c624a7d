def y_W_init : MethodName := ⟨"WindowCache", "<init>", "(III)V"⟩
theorem y_W_init_ok : y_W_init.cls ≠ "java/lang/invoke/MethodHandle" ∧ y_W_init.cls ≠ "java/lang/invoke/VarHandle" ∧ (parseMethodDescriptor y_W_init.desc).map (fun d => d.parameters.length) = some 3 := by decide +kernel
def rm_W_init : Room := { frames := 3, cells := 21, slots := 7689, locals := 65 }
theorem d_W_init_0 : decode prog_1_method_1_code 0 = .ok (.aload_n 0, 1) := by decide +kernel
theorem d_W_init_1 : decode prog_1_method_1_code 1 = .ok (.invokespecial 1, 3) := by decide +kernel
theorem d_W_init_4 : decode prog_1_method_1_code 4 = .ok (.aload_n 0, 1) := by decide +kernel
theorem d_W_init_5 : decode prog_1_method_1_code 5 = .ok (.sipush 1000, 3) := by decide +kernel
theorem d_W_init_8 : decode prog_1_method_1_code 8 = .ok (.anewarray 9, 3) := by decide +kernel
theorem d_W_init_11 : decode prog_1_method_1_code 11 = .ok (.putfield 11, 3) := by decide +kernel
theorem d_W_init_14 : decode prog_1_method_1_code 14 = .ok (.aload_n 0, 1) := by decide +kernel
theorem d_W_init_15 : decode prog_1_method_1_code 15 = .ok (.sipush 1000, 3) := by decide +kernel
theorem d_W_init_18 : decode prog_1_method_1_code 18 = .ok (.anewarray 15, 3) := by decide +kernel
theorem d_W_init_21 : decode prog_1_method_1_code 21 = .ok (.putfield 17, 3) := by decide +kernel
theorem d_W_init_24 : decode prog_1_method_1_code 24 = .ok (.aload_n 0, 1) := by decide +kernel
theorem d_W_init_25 : decode prog_1_method_1_code 25 = .ok (.new 21, 3) := by decide +kernel
theorem d_W_init_28 : decode prog_1_method_1_code 28 = .ok (.dup, 1) := by decide +kernel
theorem d_W_init_29 : decode prog_1_method_1_code 29 = .ok (.invokespecial 23, 3) := by decide +kernel
theorem d_W_init_32 : decode prog_1_method_1_code 32 = .ok (.putfield 24, 3) := by decide +kernel
theorem d_W_init_35 : decode prog_1_method_1_code 35 = .ok (.aload_n 0, 1) := by decide +kernel
theorem d_W_init_36 : decode prog_1_method_1_code 36 = .ok (.new 21, 3) := by decide +kernel
theorem d_W_init_39 : decode prog_1_method_1_code 39 = .ok (.dup, 1) := by decide +kernel
theorem d_W_init_40 : decode prog_1_method_1_code 40 = .ok (.invokespecial 23, 3) := by decide +kernel
theorem d_W_init_43 : decode prog_1_method_1_code 43 = .ok (.putfield 28, 3) := by decide +kernel
theorem d_W_init_46 : decode prog_1_method_1_code 46 = .ok (.aload_n 0, 1) := by decide +kernel
theorem d_W_init_47 : decode prog_1_method_1_code 47 = .ok (.new 31, 3) := by decide +kernel
theorem d_W_init_50 : decode prog_1_method_1_code 50 = .ok (.dup, 1) := by decide +kernel
theorem d_W_init_51 : decode prog_1_method_1_code 51 = .ok (.invokespecial 33, 3) := by decide +kernel
theorem d_W_init_54 : decode prog_1_method_1_code 54 = .ok (.putfield 34, 3) := by decide +kernel
theorem d_W_init_57 : decode prog_1_method_1_code 57 = .ok (.aload_n 0, 1) := by decide +kernel
theorem d_W_init_58 : decode prog_1_method_1_code 58 = .ok (.new 38, 3) := by decide +kernel
theorem d_W_init_61 : decode prog_1_method_1_code 61 = .ok (.dup, 1) := by decide +kernel
theorem d_W_init_62 : decode prog_1_method_1_code 62 = .ok (.invokespecial 40, 3) := by decide +kernel
theorem d_W_init_65 : decode prog_1_method_1_code 65 = .ok (.putfield 41, 3) := by decide +kernel
theorem d_W_init_68 : decode prog_1_method_1_code 68 = .ok (.aload_n 0, 1) := by decide +kernel
theorem d_W_init_69 : decode prog_1_method_1_code 69 = .ok (.iconst 1, 1) := by decide +kernel
theorem d_W_init_70 : decode prog_1_method_1_code 70 = .ok (.putfield 45, 3) := by decide +kernel
theorem d_W_init_73 : decode prog_1_method_1_code 73 = .ok (.iconst 1, 1) := by decide +kernel
theorem d_W_init_74 : decode prog_1_method_1_code 74 = .ok (.iload_n 1, 1) := by decide +kernel
theorem d_W_init_75 : decode prog_1_method_1_code 75 = .ok (.sipush 5000, 3) := by decide +kernel
theorem d_W_init_78 : decode prog_1_method_1_code 78 = .ok (.invokestatic 49, 3) := by decide +kernel
theorem d_W_init_81 : decode prog_1_method_1_code 81 = .ok (.invokestatic 55, 3) := by decide +kernel
theorem d_W_init_84 : decode prog_1_method_1_code 84 = .ok (.istore 4, 2) := by decide +kernel
theorem d_W_init_86 : decode prog_1_method_1_code 86 = .ok (.aload_n 0, 1) := by decide +kernel
theorem d_W_init_87 : decode prog_1_method_1_code 87 = .ok (.new 58, 3) := by decide +kernel
theorem d_W_init_90 : decode prog_1_method_1_code 90 = .ok (.dup, 1) := by decide +kernel
theorem d_W_init_91 : decode prog_1_method_1_code 91 = .ok (.iload_n 2, 1) := by decide +kernel
theorem d_W_init_92 : decode prog_1_method_1_code 92 = .ok (.iload_n 3, 1) := by decide +kernel
theorem d_W_init_93 : decode prog_1_method_1_code 93 = .ok (.invokespecial 60, 3) := by decide +kernel
theorem d_W_init_96 : decode prog_1_method_1_code 96 = .ok (.putfield 63, 3) := by decide +kernel
theorem d_W_init_99 : decode prog_1_method_1_code 99 = .ok (.aload_n 0, 1) := by decide +kernel
theorem d_W_init_100 : decode prog_1_method_1_code 100 = .ok (.new 67, 3) := by decide +kernel
theorem d_W_init_103 : decode prog_1_method_1_code 103 = .ok (.dup, 1) := by decide +kernel
theorem d_W_init_104 : decode prog_1_method_1_code 104 = .ok (.iload 4, 2) := by decide +kernel
theorem d_W_init_106 : decode prog_1_method_1_code 106 = .ok (.invokespecial 69, 3) := by decide +kernel
theorem d_W_init_109 : decode prog_1_method_1_code 109 = .ok (.putfield 72, 3) := by decide +kernel
theorem d_W_init_112 : decode prog_1_method_1_code 112 = .ok (.aload_n 0, 1) := by decide +kernel
theorem d_W_init_113 : decode prog_1_method_1_code 113 = .ok (.new 76, 3) := by decide +kernel
theorem d_W_init_116 : decode prog_1_method_1_code 116 = .ok (.dup, 1) := by decide +kernel
theorem d_W_init_117 : decode prog_1_method_1_code 117 = .ok (.iload 4, 2) := by decide +kernel
theorem d_W_init_119 : decode prog_1_method_1_code 119 = .ok (.invokespecial 78, 3) := by decide +kernel
theorem d_W_init_122 : decode prog_1_method_1_code 122 = .ok (.putfield 79, 3) := by decide +kernel
theorem d_W_init_125 : decode prog_1_method_1_code 125 = .ok (.aload_n 0, 1) := by decide +kernel
theorem d_W_init_126 : decode prog_1_method_1_code 126 = .ok (.new 83, 3) := by decide +kernel
theorem d_W_init_129 : decode prog_1_method_1_code 129 = .ok (.dup, 1) := by decide +kernel
theorem d_W_init_130 : decode prog_1_method_1_code 130 = .ok (.iload 4, 2) := by decide +kernel
theorem d_W_init_132 : decode prog_1_method_1_code 132 = .ok (.invokespecial 85, 3) := by decide +kernel
theorem d_W_init_135 : decode prog_1_method_1_code 135 = .ok (.putfield 86, 3) := by decide +kernel
theorem d_W_init_138 : decode prog_1_method_1_code 138 = .ok (.return_, 1) := by decide +kernel
def y_W_isKey : MethodName := ⟨"WindowCache", "isKey", "(I)Z"⟩
theorem y_W_isKey_ok : y_W_isKey.cls ≠ "java/lang/invoke/MethodHandle" ∧ y_W_isKey.cls ≠ "java/lang/invoke/VarHandle" ∧ (parseMethodDescriptor y_W_isKey.desc).map (fun d => d.parameters.length) = some 1 := by decide +kernel
def rm_W_isKey : Room := { frames := 0, cells := 0, slots := 0, locals := 0 }
theorem d_W_isKey_0 : decode prog_1_method_16_code 0 = .ok (.iload_n 0, 1) := by decide +kernel
theorem d_W_isKey_1 : decode prog_1_method_16_code 1 = .ok (.ifCond .lt 14, 3) := by decide +kernel
theorem d_W_isKey_4 : decode prog_1_method_16_code 4 = .ok (.iload_n 0, 1) := by decide +kernel
theorem d_W_isKey_5 : decode prog_1_method_16_code 5 = .ok (.sipush 1000, 3) := by decide +kernel
theorem d_W_isKey_8 : decode prog_1_method_16_code 8 = .ok (.if_icmp .ge 7, 3) := by decide +kernel
theorem d_W_isKey_11 : decode prog_1_method_16_code 11 = .ok (.iconst 1, 1) := by decide +kernel
theorem d_W_isKey_12 : decode prog_1_method_16_code 12 = .ok (.goto 4, 3) := by decide +kernel
theorem d_W_isKey_15 : decode prog_1_method_16_code 15 = .ok (.iconst 0, 1) := by decide +kernel
theorem d_W_isKey_16 : decode prog_1_method_16_code 16 = .ok (.ireturn, 1) := by decide +kernel
def y_W_ask : MethodName := ⟨"WindowCache", "ask", "(I)I"⟩
theorem y_W_ask_ok : y_W_ask.cls ≠ "java/lang/invoke/MethodHandle" ∧ y_W_ask.cls ≠ "java/lang/invoke/VarHandle" ∧ (parseMethodDescriptor y_W_ask.desc).map (fun d => d.parameters.length) = some 1 := by decide +kernel
def rm_W_ask : Room := { frames := 2, cells := 0, slots := 0, locals := 45 }
theorem d_W_ask_0 : decode prog_1_method_19_code 0 = .ok (.aload_n 0, 1) := by decide +kernel
theorem d_W_ask_1 : decode prog_1_method_19_code 1 = .ok (.getfield 11, 3) := by decide +kernel
theorem d_W_ask_4 : decode prog_1_method_19_code 4 = .ok (.iload_n 1, 1) := by decide +kernel
theorem d_W_ask_5 : decode prog_1_method_19_code 5 = .ok (.aaload, 1) := by decide +kernel
theorem d_W_ask_6 : decode prog_1_method_19_code 6 = .ok (.astore_n 2, 1) := by decide +kernel
theorem d_W_ask_7 : decode prog_1_method_19_code 7 = .ok (.aload_n 2, 1) := by decide +kernel
theorem d_W_ask_8 : decode prog_1_method_19_code 8 = .ok (.ifnull 14, 3) := by decide +kernel
theorem d_W_ask_11 : decode prog_1_method_19_code 11 = .ok (.aload_n 0, 1) := by decide +kernel
theorem d_W_ask_12 : decode prog_1_method_19_code 12 = .ok (.getfield 63, 3) := by decide +kernel
theorem d_W_ask_15 : decode prog_1_method_19_code 15 = .ok (.aload_n 2, 1) := by decide +kernel
theorem d_W_ask_16 : decode prog_1_method_19_code 16 = .ok (.invokevirtual 212, 3) := by decide +kernel
theorem d_W_ask_19 : decode prog_1_method_19_code 19 = .ok (.ifCond .eq 18, 3) := by decide +kernel
theorem d_W_ask_22 : decode prog_1_method_19_code 22 = .ok (.aload_n 0, 1) := by decide +kernel
theorem d_W_ask_23 : decode prog_1_method_19_code 23 = .ok (.getfield 86, 3) := by decide +kernel
theorem d_W_ask_26 : decode prog_1_method_19_code 26 = .ok (.dup, 1) := by decide +kernel
theorem d_W_ask_27 : decode prog_1_method_19_code 27 = .ok (.getfield 181, 3) := by decide +kernel
theorem d_W_ask_30 : decode prog_1_method_19_code 30 = .ok (.iconst 1, 1) := by decide +kernel
theorem d_W_ask_31 : decode prog_1_method_19_code 31 = .ok (.iadd, 1) := by decide +kernel
theorem d_W_ask_32 : decode prog_1_method_19_code 32 = .ok (.putfield 181, 3) := by decide +kernel
theorem d_W_ask_35 : decode prog_1_method_19_code 35 = .ok (.iconst (-1), 1) := by decide +kernel
theorem d_W_ask_36 : decode prog_1_method_19_code 36 = .ok (.ireturn, 1) := by decide +kernel
theorem d_W_ask_37 : decode prog_1_method_19_code 37 = .ok (.aload_n 0, 1) := by decide +kernel
theorem d_W_ask_38 : decode prog_1_method_19_code 38 = .ok (.getfield 86, 3) := by decide +kernel
theorem d_W_ask_41 : decode prog_1_method_19_code 41 = .ok (.dup, 1) := by decide +kernel
theorem d_W_ask_42 : decode prog_1_method_19_code 42 = .ok (.getfield 178, 3) := by decide +kernel
theorem d_W_ask_45 : decode prog_1_method_19_code 45 = .ok (.iconst 1, 1) := by decide +kernel
theorem d_W_ask_46 : decode prog_1_method_19_code 46 = .ok (.iadd, 1) := by decide +kernel
theorem d_W_ask_47 : decode prog_1_method_19_code 47 = .ok (.putfield 178, 3) := by decide +kernel
theorem d_W_ask_50 : decode prog_1_method_19_code 50 = .ok (.aload_n 0, 1) := by decide +kernel
theorem d_W_ask_51 : decode prog_1_method_19_code 51 = .ok (.getfield 63, 3) := by decide +kernel
theorem d_W_ask_54 : decode prog_1_method_19_code 54 = .ok (.aload_n 2, 1) := by decide +kernel
theorem d_W_ask_55 : decode prog_1_method_19_code 55 = .ok (.invokevirtual 215, 3) := by decide +kernel
theorem d_W_ask_58 : decode prog_1_method_19_code 58 = .ok (.iload_n 1, 1) := by decide +kernel
theorem d_W_ask_59 : decode prog_1_method_19_code 59 = .ok (.iconst 2, 1) := by decide +kernel
theorem d_W_ask_60 : decode prog_1_method_19_code 60 = .ok (.irem, 1) := by decide +kernel
theorem d_W_ask_61 : decode prog_1_method_19_code 61 = .ok (.ifCond .ne 10, 3) := by decide +kernel
theorem d_W_ask_64 : decode prog_1_method_19_code 64 = .ok (.aload_n 0, 1) := by decide +kernel
theorem d_W_ask_65 : decode prog_1_method_19_code 65 = .ok (.getfield 24, 3) := by decide +kernel
theorem d_W_ask_68 : decode prog_1_method_19_code 68 = .ok (.goto 7, 3) := by decide +kernel
theorem d_W_ask_71 : decode prog_1_method_19_code 71 = .ok (.aload_n 0, 1) := by decide +kernel
theorem d_W_ask_72 : decode prog_1_method_19_code 72 = .ok (.getfield 28, 3) := by decide +kernel
theorem d_W_ask_75 : decode prog_1_method_19_code 75 = .ok (.astore_n 3, 1) := by decide +kernel
theorem d_W_ask_76 : decode prog_1_method_19_code 76 = .ok (.aload_n 3, 1) := by decide +kernel
theorem d_W_ask_77 : decode prog_1_method_19_code 77 = .ok (.aload_n 2, 1) := by decide +kernel
theorem d_W_ask_78 : decode prog_1_method_19_code 78 = .ok (.invokevirtual 219, 3) := by decide +kernel
theorem d_W_ask_81 : decode prog_1_method_19_code 81 = .ok (.aload_n 2, 1) := by decide +kernel
theorem d_W_ask_82 : decode prog_1_method_19_code 82 = .ok (.getfield 124, 3) := by decide +kernel
theorem d_W_ask_85 : decode prog_1_method_19_code 85 = .ok (.ireturn, 1) := by decide +kernel
def y_W_get : MethodName := ⟨"WindowCache", "get", "(I)I"⟩
theorem y_W_get_ok : y_W_get.cls ≠ "java/lang/invoke/MethodHandle" ∧ y_W_get.cls ≠ "java/lang/invoke/VarHandle" ∧ (parseMethodDescriptor y_W_get.desc).map (fun d => d.parameters.length) = some 1 := by decide +kernel
def rm_W_get : Room := { frames := 3, cells := 0, slots := 0, locals := 68 }
theorem d_W_get_0 : decode prog_1_method_2_code 0 = .ok (.iload_n 1, 1) := by decide +kernel
theorem d_W_get_1 : decode prog_1_method_2_code 1 = .ok (.invokestatic 90, 3) := by decide +kernel
theorem d_W_get_4 : decode prog_1_method_2_code 4 = .ok (.ifCond .eq 11, 3) := by decide +kernel
theorem d_W_get_7 : decode prog_1_method_2_code 7 = .ok (.aload_n 0, 1) := by decide +kernel
theorem d_W_get_8 : decode prog_1_method_2_code 8 = .ok (.iload_n 1, 1) := by decide +kernel
theorem d_W_get_9 : decode prog_1_method_2_code 9 = .ok (.invokevirtual 94, 3) := by decide +kernel
theorem d_W_get_12 : decode prog_1_method_2_code 12 = .ok (.goto 4, 3) := by decide +kernel
theorem d_W_get_15 : decode prog_1_method_2_code 15 = .ok (.iconst (-1), 1) := by decide +kernel
theorem d_W_get_16 : decode prog_1_method_2_code 16 = .ok (.ireturn, 1) := by decide +kernel
def y_W_isSeen : MethodName := ⟨"WindowCache", "isSeen", "(LWindowCache$Entry;)Z"⟩
theorem y_W_isSeen_ok : y_W_isSeen.cls ≠ "java/lang/invoke/MethodHandle" ∧ y_W_isSeen.cls ≠ "java/lang/invoke/VarHandle" ∧ (parseMethodDescriptor y_W_isSeen.desc).map (fun d => d.parameters.length) = some 1 := by decide +kernel
def rm_W_isSeen : Room := { frames := 1, cells := 0, slots := 0, locals := 21 }
theorem d_W_isSeen_0 : decode prog_1_method_18_code 0 = .ok (.aload_n 1, 1) := by decide +kernel
theorem d_W_isSeen_1 : decode prog_1_method_18_code 1 = .ok (.ifnull 18, 3) := by decide +kernel
theorem d_W_isSeen_4 : decode prog_1_method_18_code 4 = .ok (.aload_n 0, 1) := by decide +kernel
theorem d_W_isSeen_5 : decode prog_1_method_18_code 5 = .ok (.getfield 63, 3) := by decide +kernel
theorem d_W_isSeen_8 : decode prog_1_method_18_code 8 = .ok (.aload_n 1, 1) := by decide +kernel
theorem d_W_isSeen_9 : decode prog_1_method_18_code 9 = .ok (.invokevirtual 212, 3) := by decide +kernel
theorem d_W_isSeen_12 : decode prog_1_method_18_code 12 = .ok (.ifCond .ne 7, 3) := by decide +kernel
theorem d_W_isSeen_15 : decode prog_1_method_18_code 15 = .ok (.iconst 1, 1) := by decide +kernel
theorem d_W_isSeen_16 : decode prog_1_method_18_code 16 = .ok (.goto 4, 3) := by decide +kernel
theorem d_W_isSeen_19 : decode prog_1_method_18_code 19 = .ok (.iconst 0, 1) := by decide +kernel
theorem d_W_isSeen_20 : decode prog_1_method_18_code 20 = .ok (.ireturn, 1) := by decide +kernel
def y_W_has : MethodName := ⟨"WindowCache", "has", "(I)Z"⟩
theorem y_W_has_ok : y_W_has.cls ≠ "java/lang/invoke/MethodHandle" ∧ y_W_has.cls ≠ "java/lang/invoke/VarHandle" ∧ (parseMethodDescriptor y_W_has.desc).map (fun d => d.parameters.length) = some 1 := by decide +kernel
def rm_W_has : Room := { frames := 2, cells := 0, slots := 0, locals := 42 }
theorem d_W_has_0 : decode prog_1_method_3_code 0 = .ok (.iload_n 1, 1) := by decide +kernel
theorem d_W_has_1 : decode prog_1_method_3_code 1 = .ok (.invokestatic 90, 3) := by decide +kernel
theorem d_W_has_4 : decode prog_1_method_3_code 4 = .ok (.ifCond .eq 20, 3) := by decide +kernel
theorem d_W_has_7 : decode prog_1_method_3_code 7 = .ok (.aload_n 0, 1) := by decide +kernel
theorem d_W_has_8 : decode prog_1_method_3_code 8 = .ok (.aload_n 0, 1) := by decide +kernel
theorem d_W_has_9 : decode prog_1_method_3_code 9 = .ok (.getfield 11, 3) := by decide +kernel
theorem d_W_has_12 : decode prog_1_method_3_code 12 = .ok (.iload_n 1, 1) := by decide +kernel
theorem d_W_has_13 : decode prog_1_method_3_code 13 = .ok (.aaload, 1) := by decide +kernel
theorem d_W_has_14 : decode prog_1_method_3_code 14 = .ok (.invokevirtual 98, 3) := by decide +kernel
theorem d_W_has_17 : decode prog_1_method_3_code 17 = .ok (.ifCond .eq 7, 3) := by decide +kernel
theorem d_W_has_20 : decode prog_1_method_3_code 20 = .ok (.iconst 1, 1) := by decide +kernel
theorem d_W_has_21 : decode prog_1_method_3_code 21 = .ok (.goto 4, 3) := by decide +kernel
theorem d_W_has_24 : decode prog_1_method_3_code 24 = .ok (.iconst 0, 1) := by decide +kernel
theorem d_W_has_25 : decode prog_1_method_3_code 25 = .ok (.ireturn, 1) := by decide +kernel
def y_W_dropFromMap : MethodName := ⟨"WindowCache", "dropFromMap", "(LWindowCache$Entry;I)V"⟩
theorem y_W_dropFromMap_ok : y_W_dropFromMap.cls ≠ "java/lang/invoke/MethodHandle" ∧ y_W_dropFromMap.cls ≠ "java/lang/invoke/VarHandle" ∧ (parseMethodDescriptor y_W_dropFromMap.desc).map (fun d => d.parameters.length) = some 2 := by decide +kernel
def rm_W_dropFromMap : Room := { frames := 1, cells := 0, slots := 0, locals := 22 }
theorem d_W_dropFromMap_0 : decode prog_1_method_23_code 0 = .ok (.aload_n 0, 1) := by decide +kernel
theorem d_W_dropFromMap_1 : decode prog_1_method_23_code 1 = .ok (.getfield 11, 3) := by decide +kernel
theorem d_W_dropFromMap_4 : decode prog_1_method_23_code 4 = .ok (.aload_n 1, 1) := by decide +kernel
theorem d_W_dropFromMap_5 : decode prog_1_method_23_code 5 = .ok (.getfield 241, 3) := by decide +kernel
theorem d_W_dropFromMap_8 : decode prog_1_method_23_code 8 = .ok (.aconst_null, 1) := by decide +kernel
theorem d_W_dropFromMap_9 : decode prog_1_method_23_code 9 = .ok (.aastore, 1) := by decide +kernel
theorem d_W_dropFromMap_10 : decode prog_1_method_23_code 10 = .ok (.aload_n 1, 1) := by decide +kernel
theorem d_W_dropFromMap_11 : decode prog_1_method_23_code 11 = .ok (.iconst 1, 1) := by decide +kernel
theorem d_W_dropFromMap_12 : decode prog_1_method_23_code 12 = .ok (.putfield 244, 3) := by decide +kernel
theorem d_W_dropFromMap_15 : decode prog_1_method_23_code 15 = .ok (.aload_n 0, 1) := by decide +kernel
theorem d_W_dropFromMap_16 : decode prog_1_method_23_code 16 = .ok (.getfield 41, 3) := by decide +kernel
theorem d_W_dropFromMap_19 : decode prog_1_method_23_code 19 = .ok (.aload_n 1, 1) := by decide +kernel
theorem d_W_dropFromMap_20 : decode prog_1_method_23_code 20 = .ok (.iload_n 2, 1) := by decide +kernel
theorem d_W_dropFromMap_21 : decode prog_1_method_23_code 21 = .ok (.invokevirtual 227, 3) := by decide +kernel
theorem d_W_dropFromMap_24 : decode prog_1_method_23_code 24 = .ok (.return_, 1) := by decide +kernel
def y_W_takeNotes : MethodName := ⟨"WindowCache", "takeNotes", "(LWindowCache$Notes;)V"⟩
theorem y_W_takeNotes_ok : y_W_takeNotes.cls ≠ "java/lang/invoke/MethodHandle" ∧ y_W_takeNotes.cls ≠ "java/lang/invoke/VarHandle" ∧ (parseMethodDescriptor y_W_takeNotes.desc).map (fun d => d.parameters.length) = some 1 := by decide +kernel
def rm_W_takeNotes : Room := { frames := 3, cells := 0, slots := 0, locals := 67 }
theorem d_W_takeNotes_0 : decode prog_1_method_27_code 0 = .ok (.iconst 0, 1) := by decide +kernel
theorem d_W_takeNotes_1 : decode prog_1_method_27_code 1 = .ok (.istore_n 2, 1) := by decide +kernel
theorem d_W_takeNotes_2 : decode prog_1_method_27_code 2 = .ok (.iload_n 2, 1) := by decide +kernel
theorem d_W_takeNotes_3 : decode prog_1_method_27_code 3 = .ok (.aload_n 1, 1) := by decide +kernel
theorem d_W_takeNotes_4 : decode prog_1_method_27_code 4 = .ok (.getfield 190, 3) := by decide +kernel
theorem d_W_takeNotes_7 : decode prog_1_method_27_code 7 = .ok (.if_icmp .ge 53, 3) := by decide +kernel
theorem d_W_takeNotes_10 : decode prog_1_method_27_code 10 = .ok (.aload_n 1, 1) := by decide +kernel
theorem d_W_takeNotes_11 : decode prog_1_method_27_code 11 = .ok (.getfield 268, 3) := by decide +kernel
theorem d_W_takeNotes_14 : decode prog_1_method_27_code 14 = .ok (.iload_n 2, 1) := by decide +kernel
theorem d_W_takeNotes_15 : decode prog_1_method_27_code 15 = .ok (.aaload, 1) := by decide +kernel
theorem d_W_takeNotes_16 : decode prog_1_method_27_code 16 = .ok (.astore_n 3, 1) := by decide +kernel
theorem d_W_takeNotes_17 : decode prog_1_method_27_code 17 = .ok (.aload_n 3, 1) := by decide +kernel
theorem d_W_takeNotes_18 : decode prog_1_method_27_code 18 = .ok (.ifnull 29, 3) := by decide +kernel
theorem d_W_takeNotes_21 : decode prog_1_method_27_code 21 = .ok (.aload_n 3, 1) := by decide +kernel
theorem d_W_takeNotes_22 : decode prog_1_method_27_code 22 = .ok (.getfield 234, 3) := by decide +kernel
theorem d_W_takeNotes_25 : decode prog_1_method_27_code 25 = .ok (.ifnull 22, 3) := by decide +kernel
theorem d_W_takeNotes_28 : decode prog_1_method_27_code 28 = .ok (.aload_n 0, 1) := by decide +kernel
theorem d_W_takeNotes_29 : decode prog_1_method_27_code 29 = .ok (.getfield 72, 3) := by decide +kernel
theorem d_W_takeNotes_32 : decode prog_1_method_27_code 32 = .ok (.aload_n 3, 1) := by decide +kernel
theorem d_W_takeNotes_33 : decode prog_1_method_27_code 33 = .ok (.getfield 241, 3) := by decide +kernel
theorem d_W_takeNotes_36 : decode prog_1_method_27_code 36 = .ok (.invokevirtual 271, 3) := by decide +kernel
theorem d_W_takeNotes_39 : decode prog_1_method_27_code 39 = .ok (.aload_n 0, 1) := by decide +kernel
theorem d_W_takeNotes_40 : decode prog_1_method_27_code 40 = .ok (.getfield 79, 3) := by decide +kernel
theorem d_W_takeNotes_43 : decode prog_1_method_27_code 43 = .ok (.aload_n 3, 1) := by decide +kernel
theorem d_W_takeNotes_44 : decode prog_1_method_27_code 44 = .ok (.invokevirtual 273, 3) := by decide +kernel
theorem d_W_takeNotes_47 : decode prog_1_method_27_code 47 = .ok (.aload_n 1, 1) := by decide +kernel
theorem d_W_takeNotes_48 : decode prog_1_method_27_code 48 = .ok (.getfield 268, 3) := by decide +kernel
theorem d_W_takeNotes_51 : decode prog_1_method_27_code 51 = .ok (.iload_n 2, 1) := by decide +kernel
theorem d_W_takeNotes_52 : decode prog_1_method_27_code 52 = .ok (.aconst_null, 1) := by decide +kernel
theorem d_W_takeNotes_53 : decode prog_1_method_27_code 53 = .ok (.aastore, 1) := by decide +kernel
theorem d_W_takeNotes_54 : decode prog_1_method_27_code 54 = .ok (.iinc 2 1, 3) := by decide +kernel
theorem d_W_takeNotes_57 : decode prog_1_method_27_code 57 = .ok (.goto (-55), 3) := by decide +kernel
theorem d_W_takeNotes_60 : decode prog_1_method_27_code 60 = .ok (.aload_n 1, 1) := by decide +kernel
theorem d_W_takeNotes_61 : decode prog_1_method_27_code 61 = .ok (.iconst 0, 1) := by decide +kernel
theorem d_W_takeNotes_62 : decode prog_1_method_27_code 62 = .ok (.putfield 190, 3) := by decide +kernel
theorem d_W_takeNotes_65 : decode prog_1_method_27_code 65 = .ok (.return_, 1) := by decide +kernel
def y_W_takeTasks : MethodName := ⟨"WindowCache", "takeTasks", "()V"⟩
theorem y_W_takeTasks_ok : y_W_takeTasks.cls ≠ "java/lang/invoke/MethodHandle" ∧ y_W_takeTasks.cls ≠ "java/lang/invoke/VarHandle" ∧ (parseMethodDescriptor y_W_takeTasks.desc).map (fun d => d.parameters.length) = some 0 := by decide +kernel
def rm_W_takeTasks : Room := { frames := 3, cells := 0, slots := 0, locals := 67 }
theorem d_W_takeTasks_0 : decode prog_1_method_28_code 0 = .ok (.iconst 0, 1) := by decide +kernel
theorem d_W_takeTasks_1 : decode prog_1_method_28_code 1 = .ok (.istore_n 1, 1) := by decide +kernel
theorem d_W_takeTasks_2 : decode prog_1_method_28_code 2 = .ok (.iload_n 1, 1) := by decide +kernel
theorem d_W_takeTasks_3 : decode prog_1_method_28_code 3 = .ok (.aload_n 0, 1) := by decide +kernel
theorem d_W_takeTasks_4 : decode prog_1_method_28_code 4 = .ok (.getfield 34, 3) := by decide +kernel
theorem d_W_takeTasks_7 : decode prog_1_method_28_code 7 = .ok (.getfield 193, 3) := by decide +kernel
theorem d_W_takeTasks_10 : decode prog_1_method_28_code 10 = .ok (.if_icmp .ge 113, 3) := by decide +kernel
theorem d_W_takeTasks_13 : decode prog_1_method_28_code 13 = .ok (.aload_n 0, 1) := by decide +kernel
theorem d_W_takeTasks_14 : decode prog_1_method_28_code 14 = .ok (.getfield 34, 3) := by decide +kernel
theorem d_W_takeTasks_17 : decode prog_1_method_28_code 17 = .ok (.getfield 276, 3) := by decide +kernel
theorem d_W_takeTasks_20 : decode prog_1_method_28_code 20 = .ok (.iload_n 1, 1) := by decide +kernel
theorem d_W_takeTasks_21 : decode prog_1_method_28_code 21 = .ok (.aaload, 1) := by decide +kernel
theorem d_W_takeTasks_22 : decode prog_1_method_28_code 22 = .ok (.astore_n 2, 1) := by decide +kernel
theorem d_W_takeTasks_23 : decode prog_1_method_28_code 23 = .ok (.aload_n 0, 1) := by decide +kernel
theorem d_W_takeTasks_24 : decode prog_1_method_28_code 24 = .ok (.getfield 34, 3) := by decide +kernel
theorem d_W_takeTasks_27 : decode prog_1_method_28_code 27 = .ok (.getfield 276, 3) := by decide +kernel
theorem d_W_takeTasks_30 : decode prog_1_method_28_code 30 = .ok (.iload_n 1, 1) := by decide +kernel
theorem d_W_takeTasks_31 : decode prog_1_method_28_code 31 = .ok (.aconst_null, 1) := by decide +kernel
theorem d_W_takeTasks_32 : decode prog_1_method_28_code 32 = .ok (.aastore, 1) := by decide +kernel
theorem d_W_takeTasks_33 : decode prog_1_method_28_code 33 = .ok (.aload_n 2, 1) := by decide +kernel
theorem d_W_takeTasks_34 : decode prog_1_method_28_code 34 = .ok (.ifnonnull 6, 3) := by decide +kernel
theorem d_W_takeTasks_37 : decode prog_1_method_28_code 37 = .ok (.goto 80, 3) := by decide +kernel
theorem d_W_takeTasks_40 : decode prog_1_method_28_code 40 = .ok (.aload_n 0, 1) := by decide +kernel
theorem d_W_takeTasks_41 : decode prog_1_method_28_code 41 = .ok (.getfield 34, 3) := by decide +kernel
theorem d_W_takeTasks_44 : decode prog_1_method_28_code 44 = .ok (.getfield 277, 3) := by decide +kernel
theorem d_W_takeTasks_47 : decode prog_1_method_28_code 47 = .ok (.iload_n 1, 1) := by decide +kernel
theorem d_W_takeTasks_48 : decode prog_1_method_28_code 48 = .ok (.iaload, 1) := by decide +kernel
theorem d_W_takeTasks_49 : decode prog_1_method_28_code 49 = .ok (.iconst 2, 1) := by decide +kernel
theorem d_W_takeTasks_50 : decode prog_1_method_28_code 50 = .ok (.if_icmp .ne 14, 3) := by decide +kernel
theorem d_W_takeTasks_53 : decode prog_1_method_28_code 53 = .ok (.aload_n 0, 1) := by decide +kernel
theorem d_W_takeTasks_54 : decode prog_1_method_28_code 54 = .ok (.getfield 79, 3) := by decide +kernel
theorem d_W_takeTasks_57 : decode prog_1_method_28_code 57 = .ok (.aload_n 2, 1) := by decide +kernel
theorem d_W_takeTasks_58 : decode prog_1_method_28_code 58 = .ok (.invokevirtual 281, 3) := by decide +kernel
theorem d_W_takeTasks_61 : decode prog_1_method_28_code 61 = .ok (.goto 56, 3) := by decide +kernel
theorem d_W_takeTasks_64 : decode prog_1_method_28_code 64 = .ok (.aload_n 0, 1) := by decide +kernel
theorem d_W_takeTasks_65 : decode prog_1_method_28_code 65 = .ok (.getfield 72, 3) := by decide +kernel
theorem d_W_takeTasks_68 : decode prog_1_method_28_code 68 = .ok (.aload_n 2, 1) := by decide +kernel
theorem d_W_takeTasks_69 : decode prog_1_method_28_code 69 = .ok (.getfield 241, 3) := by decide +kernel
theorem d_W_takeTasks_72 : decode prog_1_method_28_code 72 = .ok (.invokevirtual 271, 3) := by decide +kernel
theorem d_W_takeTasks_75 : decode prog_1_method_28_code 75 = .ok (.aload_n 0, 1) := by decide +kernel
theorem d_W_takeTasks_76 : decode prog_1_method_28_code 76 = .ok (.getfield 34, 3) := by decide +kernel
theorem d_W_takeTasks_79 : decode prog_1_method_28_code 79 = .ok (.getfield 277, 3) := by decide +kernel
theorem d_W_takeTasks_82 : decode prog_1_method_28_code 82 = .ok (.iload_n 1, 1) := by decide +kernel
theorem d_W_takeTasks_83 : decode prog_1_method_28_code 83 = .ok (.iaload, 1) := by decide +kernel
theorem d_W_takeTasks_84 : decode prog_1_method_28_code 84 = .ok (.iconst 1, 1) := by decide +kernel
theorem d_W_takeTasks_85 : decode prog_1_method_28_code 85 = .ok (.if_icmp .ne 14, 3) := by decide +kernel
theorem d_W_takeTasks_88 : decode prog_1_method_28_code 88 = .ok (.aload_n 0, 1) := by decide +kernel
theorem d_W_takeTasks_89 : decode prog_1_method_28_code 89 = .ok (.getfield 79, 3) := by decide +kernel
theorem d_W_takeTasks_92 : decode prog_1_method_28_code 92 = .ok (.aload_n 2, 1) := by decide +kernel
theorem d_W_takeTasks_93 : decode prog_1_method_28_code 93 = .ok (.invokevirtual 273, 3) := by decide +kernel
theorem d_W_takeTasks_96 : decode prog_1_method_28_code 96 = .ok (.goto 21, 3) := by decide +kernel
theorem d_W_takeTasks_99 : decode prog_1_method_28_code 99 = .ok (.aload_n 2, 1) := by decide +kernel
theorem d_W_takeTasks_100 : decode prog_1_method_28_code 100 = .ok (.getfield 244, 3) := by decide +kernel
theorem d_W_takeTasks_103 : decode prog_1_method_28_code 103 = .ok (.ifCond .ne 14, 3) := by decide +kernel
theorem d_W_takeTasks_106 : decode prog_1_method_28_code 106 = .ok (.aload_n 0, 1) := by decide +kernel
theorem d_W_takeTasks_107 : decode prog_1_method_28_code 107 = .ok (.getfield 79, 3) := by decide +kernel
theorem d_W_takeTasks_110 : decode prog_1_method_28_code 110 = .ok (.getfield 161, 3) := by decide +kernel
theorem d_W_takeTasks_113 : decode prog_1_method_28_code 113 = .ok (.aload_n 2, 1) := by decide +kernel
theorem d_W_takeTasks_114 : decode prog_1_method_28_code 114 = .ok (.invokevirtual 284, 3) := by decide +kernel
theorem d_W_takeTasks_117 : decode prog_1_method_28_code 117 = .ok (.iinc 1 1, 3) := by decide +kernel
theorem d_W_takeTasks_120 : decode prog_1_method_28_code 120 = .ok (.goto (-118), 3) := by decide +kernel
theorem d_W_takeTasks_123 : decode prog_1_method_28_code 123 = .ok (.aload_n 0, 1) := by decide +kernel
theorem d_W_takeTasks_124 : decode prog_1_method_28_code 124 = .ok (.getfield 34, 3) := by decide +kernel
theorem d_W_takeTasks_127 : decode prog_1_method_28_code 127 = .ok (.iconst 0, 1) := by decide +kernel
theorem d_W_takeTasks_128 : decode prog_1_method_28_code 128 = .ok (.putfield 193, 3) := by decide +kernel
theorem d_W_takeTasks_131 : decode prog_1_method_28_code 131 = .ok (.return_, 1) := by decide +kernel
def y_W_expire : MethodName := ⟨"WindowCache", "expire", "()V"⟩
theorem y_W_expire_ok : y_W_expire.cls ≠ "java/lang/invoke/MethodHandle" ∧ y_W_expire.cls ≠ "java/lang/invoke/VarHandle" ∧ (parseMethodDescriptor y_W_expire.desc).map (fun d => d.parameters.length) = some 0 := by decide +kernel
def rm_W_expire : Room := { frames := 3, cells := 0, slots := 0, locals := 69 }
theorem d_W_expire_0 : decode prog_1_method_29_code 0 = .ok (.aload_n 0, 1) := by decide +kernel
theorem d_W_expire_1 : decode prog_1_method_29_code 1 = .ok (.getfield 79, 3) := by decide +kernel
theorem d_W_expire_4 : decode prog_1_method_29_code 4 = .ok (.invokevirtual 287, 3) := by decide +kernel
theorem d_W_expire_7 : decode prog_1_method_29_code 7 = .ok (.istore_n 1, 1) := by decide +kernel
theorem d_W_expire_8 : decode prog_1_method_29_code 8 = .ok (.iload_n 1, 1) := by decide +kernel
theorem d_W_expire_9 : decode prog_1_method_29_code 9 = .ok (.ifCond .le 43, 3) := by decide +kernel
theorem d_W_expire_12 : decode prog_1_method_29_code 12 = .ok (.aload_n 0, 1) := by decide +kernel
theorem d_W_expire_13 : decode prog_1_method_29_code 13 = .ok (.getfield 79, 3) := by decide +kernel
theorem d_W_expire_16 : decode prog_1_method_29_code 16 = .ok (.aload_n 0, 1) := by decide +kernel
theorem d_W_expire_17 : decode prog_1_method_29_code 17 = .ok (.getfield 63, 3) := by decide +kernel
theorem d_W_expire_20 : decode prog_1_method_29_code 20 = .ok (.getfield 145, 3) := by decide +kernel
theorem d_W_expire_23 : decode prog_1_method_29_code 23 = .ok (.invokevirtual 289, 3) := by decide +kernel
theorem d_W_expire_26 : decode prog_1_method_29_code 26 = .ok (.astore_n 2, 1) := by decide +kernel
theorem d_W_expire_27 : decode prog_1_method_29_code 27 = .ok (.aload_n 2, 1) := by decide +kernel
theorem d_W_expire_28 : decode prog_1_method_29_code 28 = .ok (.ifnonnull 4, 3) := by decide +kernel
theorem d_W_expire_31 : decode prog_1_method_29_code 31 = .ok (.return_, 1) := by decide +kernel
theorem d_W_expire_32 : decode prog_1_method_29_code 32 = .ok (.aload_n 0, 1) := by decide +kernel
theorem d_W_expire_33 : decode prog_1_method_29_code 33 = .ok (.aload_n 2, 1) := by decide +kernel
theorem d_W_expire_34 : decode prog_1_method_29_code 34 = .ok (.iconst 2, 1) := by decide +kernel
theorem d_W_expire_35 : decode prog_1_method_29_code 35 = .ok (.invokevirtual 113, 3) := by decide +kernel
theorem d_W_expire_38 : decode prog_1_method_29_code 38 = .ok (.aload_n 0, 1) := by decide +kernel
theorem d_W_expire_39 : decode prog_1_method_29_code 39 = .ok (.getfield 79, 3) := by decide +kernel
theorem d_W_expire_42 : decode prog_1_method_29_code 42 = .ok (.aload_n 2, 1) := by decide +kernel
theorem d_W_expire_43 : decode prog_1_method_29_code 43 = .ok (.invokevirtual 281, 3) := by decide +kernel
theorem d_W_expire_46 : decode prog_1_method_29_code 46 = .ok (.iinc 1 (-1), 3) := by decide +kernel
theorem d_W_expire_49 : decode prog_1_method_29_code 49 = .ok (.goto (-41), 3) := by decide +kernel
theorem d_W_expire_52 : decode prog_1_method_29_code 52 = .ok (.return_, 1) := by decide +kernel
def y_W_nextDraw : MethodName := ⟨"WindowCache", "nextDraw", "()I"⟩
theorem y_W_nextDraw_ok : y_W_nextDraw.cls ≠ "java/lang/invoke/MethodHandle" ∧ y_W_nextDraw.cls ≠ "java/lang/invoke/VarHandle" ∧ (parseMethodDescriptor y_W_nextDraw.desc).map (fun d => d.parameters.length) = some 0 := by decide +kernel
def rm_W_nextDraw : Room := { frames := 0, cells := 0, slots := 0, locals := 0 }
theorem d_W_nextDraw_0 : decode prog_1_method_32_code 0 = .ok (.aload_n 0, 1) := by decide +kernel
theorem d_W_nextDraw_1 : decode prog_1_method_32_code 1 = .ok (.dup, 1) := by decide +kernel
theorem d_W_nextDraw_2 : decode prog_1_method_32_code 2 = .ok (.getfield 45, 3) := by decide +kernel
theorem d_W_nextDraw_5 : decode prog_1_method_32_code 5 = .ok (.aload_n 0, 1) := by decide +kernel
theorem d_W_nextDraw_6 : decode prog_1_method_32_code 6 = .ok (.getfield 45, 3) := by decide +kernel
theorem d_W_nextDraw_9 : decode prog_1_method_32_code 9 = .ok (.bipush 13, 2) := by decide +kernel
theorem d_W_nextDraw_11 : decode prog_1_method_32_code 11 = .ok (.ishl, 1) := by decide +kernel
theorem d_W_nextDraw_12 : decode prog_1_method_32_code 12 = .ok (.ixor, 1) := by decide +kernel
theorem d_W_nextDraw_13 : decode prog_1_method_32_code 13 = .ok (.putfield 45, 3) := by decide +kernel
theorem d_W_nextDraw_16 : decode prog_1_method_32_code 16 = .ok (.aload_n 0, 1) := by decide +kernel
theorem d_W_nextDraw_17 : decode prog_1_method_32_code 17 = .ok (.dup, 1) := by decide +kernel
theorem d_W_nextDraw_18 : decode prog_1_method_32_code 18 = .ok (.getfield 45, 3) := by decide +kernel
theorem d_W_nextDraw_21 : decode prog_1_method_32_code 21 = .ok (.aload_n 0, 1) := by decide +kernel
theorem d_W_nextDraw_22 : decode prog_1_method_32_code 22 = .ok (.getfield 45, 3) := by decide +kernel
theorem d_W_nextDraw_25 : decode prog_1_method_32_code 25 = .ok (.bipush 17, 2) := by decide +kernel
theorem d_W_nextDraw_27 : decode prog_1_method_32_code 27 = .ok (.iushr, 1) := by decide +kernel
theorem d_W_nextDraw_28 : decode prog_1_method_32_code 28 = .ok (.ixor, 1) := by decide +kernel
theorem d_W_nextDraw_29 : decode prog_1_method_32_code 29 = .ok (.putfield 45, 3) := by decide +kernel
theorem d_W_nextDraw_32 : decode prog_1_method_32_code 32 = .ok (.aload_n 0, 1) := by decide +kernel
theorem d_W_nextDraw_33 : decode prog_1_method_32_code 33 = .ok (.dup, 1) := by decide +kernel
theorem d_W_nextDraw_34 : decode prog_1_method_32_code 34 = .ok (.getfield 45, 3) := by decide +kernel
theorem d_W_nextDraw_37 : decode prog_1_method_32_code 37 = .ok (.aload_n 0, 1) := by decide +kernel
theorem d_W_nextDraw_38 : decode prog_1_method_32_code 38 = .ok (.getfield 45, 3) := by decide +kernel
theorem d_W_nextDraw_41 : decode prog_1_method_32_code 41 = .ok (.iconst 5, 1) := by decide +kernel
theorem d_W_nextDraw_42 : decode prog_1_method_32_code 42 = .ok (.ishl, 1) := by decide +kernel
theorem d_W_nextDraw_43 : decode prog_1_method_32_code 43 = .ok (.ixor, 1) := by decide +kernel
theorem d_W_nextDraw_44 : decode prog_1_method_32_code 44 = .ok (.putfield 45, 3) := by decide +kernel
theorem d_W_nextDraw_47 : decode prog_1_method_32_code 47 = .ok (.aload_n 0, 1) := by decide +kernel
theorem d_W_nextDraw_48 : decode prog_1_method_32_code 48 = .ok (.getfield 45, 3) := by decide +kernel
theorem d_W_nextDraw_51 : decode prog_1_method_32_code 51 = .ok (.ireturn, 1) := by decide +kernel
def y_W_loserOf : MethodName := ⟨"WindowCache", "loserOf", "(LWindowCache$Entry;LWindowCache$Entry;)LWindowCache$Entry;"⟩
theorem y_W_loserOf_ok : y_W_loserOf.cls ≠ "java/lang/invoke/MethodHandle" ∧ y_W_loserOf.cls ≠ "java/lang/invoke/VarHandle" ∧ (parseMethodDescriptor y_W_loserOf.desc).map (fun d => d.parameters.length) = some 2 := by decide +kernel
def rm_W_loserOf : Room := { frames := 2, cells := 0, slots := 0, locals := 48 }
theorem d_W_loserOf_0 : decode prog_1_method_31_code 0 = .ok (.aload_n 1, 1) := by decide +kernel
theorem d_W_loserOf_1 : decode prog_1_method_31_code 1 = .ok (.aload_n 2, 1) := by decide +kernel
theorem d_W_loserOf_2 : decode prog_1_method_31_code 2 = .ok (.if_acmp .ne 5, 3) := by decide +kernel
theorem d_W_loserOf_5 : decode prog_1_method_31_code 5 = .ok (.aload_n 2, 1) := by decide +kernel
theorem d_W_loserOf_6 : decode prog_1_method_31_code 6 = .ok (.areturn, 1) := by decide +kernel
theorem d_W_loserOf_7 : decode prog_1_method_31_code 7 = .ok (.aload_n 0, 1) := by decide +kernel
theorem d_W_loserOf_8 : decode prog_1_method_31_code 8 = .ok (.getfield 72, 3) := by decide +kernel
theorem d_W_loserOf_11 : decode prog_1_method_31_code 11 = .ok (.aload_n 1, 1) := by decide +kernel
theorem d_W_loserOf_12 : decode prog_1_method_31_code 12 = .ok (.getfield 241, 3) := by decide +kernel
theorem d_W_loserOf_15 : decode prog_1_method_31_code 15 = .ok (.invokevirtual 203, 3) := by decide +kernel
theorem d_W_loserOf_18 : decode prog_1_method_31_code 18 = .ok (.istore_n 3, 1) := by decide +kernel
theorem d_W_loserOf_19 : decode prog_1_method_31_code 19 = .ok (.iload_n 3, 1) := by decide +kernel
theorem d_W_loserOf_20 : decode prog_1_method_31_code 20 = .ok (.aload_n 0, 1) := by decide +kernel
theorem d_W_loserOf_21 : decode prog_1_method_31_code 21 = .ok (.getfield 72, 3) := by decide +kernel
theorem d_W_loserOf_24 : decode prog_1_method_31_code 24 = .ok (.aload_n 2, 1) := by decide +kernel
theorem d_W_loserOf_25 : decode prog_1_method_31_code 25 = .ok (.getfield 241, 3) := by decide +kernel
theorem d_W_loserOf_28 : decode prog_1_method_31_code 28 = .ok (.invokevirtual 203, 3) := by decide +kernel
theorem d_W_loserOf_31 : decode prog_1_method_31_code 31 = .ok (.if_icmp .le 5, 3) := by decide +kernel
theorem d_W_loserOf_34 : decode prog_1_method_31_code 34 = .ok (.aload_n 2, 1) := by decide +kernel
theorem d_W_loserOf_35 : decode prog_1_method_31_code 35 = .ok (.areturn, 1) := by decide +kernel
theorem d_W_loserOf_36 : decode prog_1_method_31_code 36 = .ok (.iload_n 3, 1) := by decide +kernel
theorem d_W_loserOf_37 : decode prog_1_method_31_code 37 = .ok (.iconst 5, 1) := by decide +kernel
theorem d_W_loserOf_38 : decode prog_1_method_31_code 38 = .ok (.if_icmp .gt 5, 3) := by decide +kernel
theorem d_W_loserOf_41 : decode prog_1_method_31_code 41 = .ok (.aload_n 1, 1) := by decide +kernel
theorem d_W_loserOf_42 : decode prog_1_method_31_code 42 = .ok (.areturn, 1) := by decide +kernel
theorem d_W_loserOf_43 : decode prog_1_method_31_code 43 = .ok (.aload_n 0, 1) := by decide +kernel
theorem d_W_loserOf_44 : decode prog_1_method_31_code 44 = .ok (.invokevirtual 305, 3) := by decide +kernel
theorem d_W_loserOf_47 : decode prog_1_method_31_code 47 = .ok (.sipush 128, 3) := by decide +kernel
theorem d_W_loserOf_50 : decode prog_1_method_31_code 50 = .ok (.irem, 1) := by decide +kernel
theorem d_W_loserOf_51 : decode prog_1_method_31_code 51 = .ok (.ifCond .ne 7, 3) := by decide +kernel
theorem d_W_loserOf_54 : decode prog_1_method_31_code 54 = .ok (.aload_n 2, 1) := by decide +kernel
theorem d_W_loserOf_55 : decode prog_1_method_31_code 55 = .ok (.goto 4, 3) := by decide +kernel
theorem d_W_loserOf_58 : decode prog_1_method_31_code 58 = .ok (.aload_n 1, 1) := by decide +kernel
theorem d_W_loserOf_59 : decode prog_1_method_31_code 59 = .ok (.areturn, 1) := by decide +kernel
def y_W_evict : MethodName := ⟨"WindowCache", "evict", "(LWindowCache$Entry;)V"⟩
theorem y_W_evict_ok : y_W_evict.cls ≠ "java/lang/invoke/MethodHandle" ∧ y_W_evict.cls ≠ "java/lang/invoke/VarHandle" ∧ (parseMethodDescriptor y_W_evict.desc).map (fun d => d.parameters.length) = some 1 := by decide +kernel
def rm_W_evict : Room := { frames := 3, cells := 0, slots := 0, locals := 71 }
theorem d_W_evict_0 : decode prog_1_method_30_code 0 = .ok (.aload_n 1, 1) := by decide +kernel
theorem d_W_evict_1 : decode prog_1_method_30_code 1 = .ok (.astore_n 2, 1) := by decide +kernel
theorem d_W_evict_2 : decode prog_1_method_30_code 2 = .ok (.aload_n 0, 1) := by decide +kernel
theorem d_W_evict_3 : decode prog_1_method_30_code 3 = .ok (.getfield 79, 3) := by decide +kernel
theorem d_W_evict_6 : decode prog_1_method_30_code 6 = .ok (.invokevirtual 287, 3) := by decide +kernel
theorem d_W_evict_9 : decode prog_1_method_30_code 9 = .ok (.istore_n 3, 1) := by decide +kernel
theorem d_W_evict_10 : decode prog_1_method_30_code 10 = .ok (.iload_n 3, 1) := by decide +kernel
theorem d_W_evict_11 : decode prog_1_method_30_code 11 = .ok (.ifCond .le 112, 3) := by decide +kernel
theorem d_W_evict_14 : decode prog_1_method_30_code 14 = .ok (.aload_n 0, 1) := by decide +kernel
theorem d_W_evict_15 : decode prog_1_method_30_code 15 = .ok (.getfield 79, 3) := by decide +kernel
theorem d_W_evict_18 : decode prog_1_method_30_code 18 = .ok (.invokevirtual 153, 3) := by decide +kernel
theorem d_W_evict_21 : decode prog_1_method_30_code 21 = .ok (.aload_n 0, 1) := by decide +kernel
theorem d_W_evict_22 : decode prog_1_method_30_code 22 = .ok (.getfield 79, 3) := by decide +kernel
theorem d_W_evict_25 : decode prog_1_method_30_code 25 = .ok (.getfield 293, 3) := by decide +kernel
theorem d_W_evict_28 : decode prog_1_method_30_code 28 = .ok (.if_icmp .le 95, 3) := by decide +kernel
theorem d_W_evict_31 : decode prog_1_method_30_code 31 = .ok (.aload_n 0, 1) := by decide +kernel
theorem d_W_evict_32 : decode prog_1_method_30_code 32 = .ok (.getfield 79, 3) := by decide +kernel
theorem d_W_evict_35 : decode prog_1_method_30_code 35 = .ok (.invokevirtual 295, 3) := by decide +kernel
theorem d_W_evict_38 : decode prog_1_method_30_code 38 = .ok (.astore 4, 2) := by decide +kernel
theorem d_W_evict_40 : decode prog_1_method_30_code 40 = .ok (.aload 4, 2) := by decide +kernel
theorem d_W_evict_42 : decode prog_1_method_30_code 42 = .ok (.ifnonnull 4, 3) := by decide +kernel
theorem d_W_evict_45 : decode prog_1_method_30_code 45 = .ok (.return_, 1) := by decide +kernel
theorem d_W_evict_46 : decode prog_1_method_30_code 46 = .ok (.aload_n 2, 1) := by decide +kernel
theorem d_W_evict_47 : decode prog_1_method_30_code 47 = .ok (.ifnonnull 8, 3) := by decide +kernel
theorem d_W_evict_50 : decode prog_1_method_30_code 50 = .ok (.aload 4, 2) := by decide +kernel
theorem d_W_evict_52 : decode prog_1_method_30_code 52 = .ok (.goto 10, 3) := by decide +kernel
theorem d_W_evict_55 : decode prog_1_method_30_code 55 = .ok (.aload_n 0, 1) := by decide +kernel
theorem d_W_evict_56 : decode prog_1_method_30_code 56 = .ok (.aload_n 2, 1) := by decide +kernel
theorem d_W_evict_57 : decode prog_1_method_30_code 57 = .ok (.aload 4, 2) := by decide +kernel
theorem d_W_evict_59 : decode prog_1_method_30_code 59 = .ok (.invokevirtual 298, 3) := by decide +kernel
theorem d_W_evict_62 : decode prog_1_method_30_code 62 = .ok (.astore 5, 2) := by decide +kernel
theorem d_W_evict_64 : decode prog_1_method_30_code 64 = .ok (.aload_n 2, 1) := by decide +kernel
theorem d_W_evict_65 : decode prog_1_method_30_code 65 = .ok (.ifnonnull 7, 3) := by decide +kernel
theorem d_W_evict_68 : decode prog_1_method_30_code 68 = .ok (.aconst_null, 1) := by decide +kernel
theorem d_W_evict_69 : decode prog_1_method_30_code 69 = .ok (.goto 7, 3) := by decide +kernel
theorem d_W_evict_72 : decode prog_1_method_30_code 72 = .ok (.aload_n 2, 1) := by decide +kernel
theorem d_W_evict_73 : decode prog_1_method_30_code 73 = .ok (.getfield 302, 3) := by decide +kernel
theorem d_W_evict_76 : decode prog_1_method_30_code 76 = .ok (.astore_n 2, 1) := by decide +kernel
theorem d_W_evict_77 : decode prog_1_method_30_code 77 = .ok (.aload_n 0, 1) := by decide +kernel
theorem d_W_evict_78 : decode prog_1_method_30_code 78 = .ok (.dup, 1) := by decide +kernel
theorem d_W_evict_79 : decode prog_1_method_30_code 79 = .ok (.getfield 184, 3) := by decide +kernel
theorem d_W_evict_82 : decode prog_1_method_30_code 82 = .ok (.iconst 1, 1) := by decide +kernel
theorem d_W_evict_83 : decode prog_1_method_30_code 83 = .ok (.iadd, 1) := by decide +kernel
theorem d_W_evict_84 : decode prog_1_method_30_code 84 = .ok (.putfield 184, 3) := by decide +kernel
theorem d_W_evict_87 : decode prog_1_method_30_code 87 = .ok (.aload_n 0, 1) := by decide +kernel
theorem d_W_evict_88 : decode prog_1_method_30_code 88 = .ok (.dup, 1) := by decide +kernel
theorem d_W_evict_89 : decode prog_1_method_30_code 89 = .ok (.getfield 187, 3) := by decide +kernel
theorem d_W_evict_92 : decode prog_1_method_30_code 92 = .ok (.aload 5, 2) := by decide +kernel
theorem d_W_evict_94 : decode prog_1_method_30_code 94 = .ok (.getfield 237, 3) := by decide +kernel
theorem d_W_evict_97 : decode prog_1_method_30_code 97 = .ok (.iadd, 1) := by decide +kernel
theorem d_W_evict_98 : decode prog_1_method_30_code 98 = .ok (.putfield 187, 3) := by decide +kernel
theorem d_W_evict_101 : decode prog_1_method_30_code 101 = .ok (.aload_n 0, 1) := by decide +kernel
theorem d_W_evict_102 : decode prog_1_method_30_code 102 = .ok (.aload 5, 2) := by decide +kernel
theorem d_W_evict_104 : decode prog_1_method_30_code 104 = .ok (.iconst 3, 1) := by decide +kernel
theorem d_W_evict_105 : decode prog_1_method_30_code 105 = .ok (.invokevirtual 113, 3) := by decide +kernel
theorem d_W_evict_108 : decode prog_1_method_30_code 108 = .ok (.aload_n 0, 1) := by decide +kernel
theorem d_W_evict_109 : decode prog_1_method_30_code 109 = .ok (.getfield 79, 3) := by decide +kernel
theorem d_W_evict_112 : decode prog_1_method_30_code 112 = .ok (.aload 5, 2) := by decide +kernel
theorem d_W_evict_114 : decode prog_1_method_30_code 114 = .ok (.invokevirtual 281, 3) := by decide +kernel
theorem d_W_evict_117 : decode prog_1_method_30_code 117 = .ok (.iinc 3 (-1), 3) := by decide +kernel
theorem d_W_evict_120 : decode prog_1_method_30_code 120 = .ok (.goto (-110), 3) := by decide +kernel
theorem d_W_evict_123 : decode prog_1_method_30_code 123 = .ok (.return_, 1) := by decide +kernel
def y_W_climbIfDue : MethodName := ⟨"WindowCache", "climbIfDue", "()V"⟩
theorem y_W_climbIfDue_ok : y_W_climbIfDue.cls ≠ "java/lang/invoke/MethodHandle" ∧ y_W_climbIfDue.cls ≠ "java/lang/invoke/VarHandle" ∧ (parseMethodDescriptor y_W_climbIfDue.desc).map (fun d => d.parameters.length) = some 0 := by decide +kernel
def rm_W_climbIfDue : Room := { frames := 3, cells := 0, slots := 0, locals := 66 }
theorem d_W_climbIfDue_0 : decode prog_1_method_33_code 0 = .ok (.aload_n 0, 1) := by decide +kernel
theorem d_W_climbIfDue_1 : decode prog_1_method_33_code 1 = .ok (.getfield 86, 3) := by decide +kernel
theorem d_W_climbIfDue_4 : decode prog_1_method_33_code 4 = .ok (.invokevirtual 308, 3) := by decide +kernel
theorem d_W_climbIfDue_7 : decode prog_1_method_33_code 7 = .ok (.ifCond .ne 4, 3) := by decide +kernel
theorem d_W_climbIfDue_10 : decode prog_1_method_33_code 10 = .ok (.return_, 1) := by decide +kernel
theorem d_W_climbIfDue_11 : decode prog_1_method_33_code 11 = .ok (.aload_n 0, 1) := by decide +kernel
theorem d_W_climbIfDue_12 : decode prog_1_method_33_code 12 = .ok (.getfield 79, 3) := by decide +kernel
theorem d_W_climbIfDue_15 : decode prog_1_method_33_code 15 = .ok (.aload_n 0, 1) := by decide +kernel
theorem d_W_climbIfDue_16 : decode prog_1_method_33_code 16 = .ok (.getfield 86, 3) := by decide +kernel
theorem d_W_climbIfDue_19 : decode prog_1_method_33_code 19 = .ok (.invokevirtual 312, 3) := by decide +kernel
theorem d_W_climbIfDue_22 : decode prog_1_method_33_code 22 = .ok (.invokevirtual 315, 3) := by decide +kernel
theorem d_W_climbIfDue_25 : decode prog_1_method_33_code 25 = .ok (.aload_n 0, 1) := by decide +kernel
theorem d_W_climbIfDue_26 : decode prog_1_method_33_code 26 = .ok (.getfield 86, 3) := by decide +kernel
theorem d_W_climbIfDue_29 : decode prog_1_method_33_code 29 = .ok (.getfield 318, 3) := by decide +kernel
theorem d_W_climbIfDue_32 : decode prog_1_method_33_code 32 = .ok (.ifCond .eq 13, 3) := by decide +kernel
theorem d_W_climbIfDue_35 : decode prog_1_method_33_code 35 = .ok (.aload_n 0, 1) := by decide +kernel
theorem d_W_climbIfDue_36 : decode prog_1_method_33_code 36 = .ok (.getfield 79, 3) := by decide +kernel
theorem d_W_climbIfDue_39 : decode prog_1_method_33_code 39 = .ok (.invokevirtual 321, 3) := by decide +kernel
theorem d_W_climbIfDue_42 : decode prog_1_method_33_code 42 = .ok (.goto 11, 3) := by decide +kernel
theorem d_W_climbIfDue_45 : decode prog_1_method_33_code 45 = .ok (.aload_n 0, 1) := by decide +kernel
theorem d_W_climbIfDue_46 : decode prog_1_method_33_code 46 = .ok (.getfield 79, 3) := by decide +kernel
theorem d_W_climbIfDue_49 : decode prog_1_method_33_code 49 = .ok (.invokevirtual 258, 3) := by decide +kernel
theorem d_W_climbIfDue_52 : decode prog_1_method_33_code 52 = .ok (.pop, 1) := by decide +kernel
theorem d_W_climbIfDue_53 : decode prog_1_method_33_code 53 = .ok (.aload_n 0, 1) := by decide +kernel
theorem d_W_climbIfDue_54 : decode prog_1_method_33_code 54 = .ok (.getfield 79, 3) := by decide +kernel
theorem d_W_climbIfDue_57 : decode prog_1_method_33_code 57 = .ok (.invokevirtual 324, 3) := by decide +kernel
theorem d_W_climbIfDue_60 : decode prog_1_method_33_code 60 = .ok (.return_, 1) := by decide +kernel
def y_W_tidy : MethodName := ⟨"WindowCache", "tidy", "()V"⟩
theorem y_W_tidy_ok : y_W_tidy.cls ≠ "java/lang/invoke/MethodHandle" ∧ y_W_tidy.cls ≠ "java/lang/invoke/VarHandle" ∧ (parseMethodDescriptor y_W_tidy.desc).map (fun d => d.parameters.length) = some 0 := by decide +kernel
def rm_W_tidy : Room := { frames := 4, cells := 0, slots := 0, locals := 96 }
theorem d_W_tidy_0 : decode prog_1_method_26_code 0 = .ok (.aload_n 0, 1) := by decide +kernel
theorem d_W_tidy_1 : decode prog_1_method_26_code 1 = .ok (.aload_n 0, 1) := by decide +kernel
theorem d_W_tidy_2 : decode prog_1_method_26_code 2 = .ok (.getfield 24, 3) := by decide +kernel
theorem d_W_tidy_5 : decode prog_1_method_26_code 5 = .ok (.invokevirtual 248, 3) := by decide +kernel
theorem d_W_tidy_8 : decode prog_1_method_26_code 8 = .ok (.aload_n 0, 1) := by decide +kernel
theorem d_W_tidy_9 : decode prog_1_method_26_code 9 = .ok (.aload_n 0, 1) := by decide +kernel
theorem d_W_tidy_10 : decode prog_1_method_26_code 10 = .ok (.getfield 28, 3) := by decide +kernel
theorem d_W_tidy_13 : decode prog_1_method_26_code 13 = .ok (.invokevirtual 248, 3) := by decide +kernel
theorem d_W_tidy_16 : decode prog_1_method_26_code 16 = .ok (.aload_n 0, 1) := by decide +kernel
theorem d_W_tidy_17 : decode prog_1_method_26_code 17 = .ok (.invokevirtual 252, 3) := by decide +kernel
theorem d_W_tidy_20 : decode prog_1_method_26_code 20 = .ok (.aload_n 0, 1) := by decide +kernel
theorem d_W_tidy_21 : decode prog_1_method_26_code 21 = .ok (.invokevirtual 255, 3) := by decide +kernel
theorem d_W_tidy_24 : decode prog_1_method_26_code 24 = .ok (.aload_n 0, 1) := by decide +kernel
theorem d_W_tidy_25 : decode prog_1_method_26_code 25 = .ok (.aload_n 0, 1) := by decide +kernel
theorem d_W_tidy_26 : decode prog_1_method_26_code 26 = .ok (.getfield 79, 3) := by decide +kernel
theorem d_W_tidy_29 : decode prog_1_method_26_code 29 = .ok (.invokevirtual 258, 3) := by decide +kernel
theorem d_W_tidy_32 : decode prog_1_method_26_code 32 = .ok (.invokevirtual 262, 3) := by decide +kernel
theorem d_W_tidy_35 : decode prog_1_method_26_code 35 = .ok (.aload_n 0, 1) := by decide +kernel
theorem d_W_tidy_36 : decode prog_1_method_26_code 36 = .ok (.invokevirtual 265, 3) := by decide +kernel
theorem d_W_tidy_39 : decode prog_1_method_26_code 39 = .ok (.return_, 1) := by decide +kernel
def y_W_remove : MethodName := ⟨"WindowCache", "remove", "(I)I"⟩
theorem y_W_remove_ok : y_W_remove.cls ≠ "java/lang/invoke/MethodHandle" ∧ y_W_remove.cls ≠ "java/lang/invoke/VarHandle" ∧ (parseMethodDescriptor y_W_remove.desc).map (fun d => d.parameters.length) = some 1 := by decide +kernel
def rm_W_remove : Room := { frames := 5, cells := 0, slots := 0, locals := 116 }
theorem d_W_remove_0 : decode prog_1_method_5_code 0 = .ok (.iload_n 1, 1) := by decide +kernel
theorem d_W_remove_1 : decode prog_1_method_5_code 1 = .ok (.invokestatic 90, 3) := by decide +kernel
theorem d_W_remove_4 : decode prog_1_method_5_code 4 = .ok (.ifCond .eq 12, 3) := by decide +kernel
theorem d_W_remove_7 : decode prog_1_method_5_code 7 = .ok (.aload_n 0, 1) := by decide +kernel
theorem d_W_remove_8 : decode prog_1_method_5_code 8 = .ok (.getfield 11, 3) := by decide +kernel
theorem d_W_remove_11 : decode prog_1_method_5_code 11 = .ok (.iload_n 1, 1) := by decide +kernel
theorem d_W_remove_12 : decode prog_1_method_5_code 12 = .ok (.aaload, 1) := by decide +kernel
theorem d_W_remove_13 : decode prog_1_method_5_code 13 = .ok (.goto 4, 3) := by decide +kernel
theorem d_W_remove_16 : decode prog_1_method_5_code 16 = .ok (.aconst_null, 1) := by decide +kernel
theorem d_W_remove_17 : decode prog_1_method_5_code 17 = .ok (.astore_n 2, 1) := by decide +kernel
theorem d_W_remove_18 : decode prog_1_method_5_code 18 = .ok (.aload_n 2, 1) := by decide +kernel
theorem d_W_remove_19 : decode prog_1_method_5_code 19 = .ok (.ifnonnull 5, 3) := by decide +kernel
theorem d_W_remove_22 : decode prog_1_method_5_code 22 = .ok (.iconst (-1), 1) := by decide +kernel
theorem d_W_remove_23 : decode prog_1_method_5_code 23 = .ok (.ireturn, 1) := by decide +kernel
theorem d_W_remove_24 : decode prog_1_method_5_code 24 = .ok (.aload_n 0, 1) := by decide +kernel
theorem d_W_remove_25 : decode prog_1_method_5_code 25 = .ok (.aload_n 2, 1) := by decide +kernel
theorem d_W_remove_26 : decode prog_1_method_5_code 26 = .ok (.invokevirtual 98, 3) := by decide +kernel
theorem d_W_remove_29 : decode prog_1_method_5_code 29 = .ok (.istore_n 3, 1) := by decide +kernel
theorem d_W_remove_30 : decode prog_1_method_5_code 30 = .ok (.aload_n 0, 1) := by decide +kernel
theorem d_W_remove_31 : decode prog_1_method_5_code 31 = .ok (.aload_n 2, 1) := by decide +kernel
theorem d_W_remove_32 : decode prog_1_method_5_code 32 = .ok (.iload_n 3, 1) := by decide +kernel
theorem d_W_remove_33 : decode prog_1_method_5_code 33 = .ok (.ifCond .eq 7, 3) := by decide +kernel
theorem d_W_remove_36 : decode prog_1_method_5_code 36 = .ok (.iconst 0, 1) := by decide +kernel
theorem d_W_remove_37 : decode prog_1_method_5_code 37 = .ok (.goto 4, 3) := by decide +kernel
theorem d_W_remove_40 : decode prog_1_method_5_code 40 = .ok (.iconst 2, 1) := by decide +kernel
theorem d_W_remove_41 : decode prog_1_method_5_code 41 = .ok (.invokevirtual 113, 3) := by decide +kernel
theorem d_W_remove_44 : decode prog_1_method_5_code 44 = .ok (.aload_n 0, 1) := by decide +kernel
theorem d_W_remove_45 : decode prog_1_method_5_code 45 = .ok (.getfield 34, 3) := by decide +kernel
theorem d_W_remove_48 : decode prog_1_method_5_code 48 = .ok (.iconst 2, 1) := by decide +kernel
theorem d_W_remove_49 : decode prog_1_method_5_code 49 = .ok (.aload_n 2, 1) := by decide +kernel
theorem d_W_remove_50 : decode prog_1_method_5_code 50 = .ok (.invokevirtual 117, 3) := by decide +kernel
theorem d_W_remove_53 : decode prog_1_method_5_code 53 = .ok (.ifCond .eq 7, 3) := by decide +kernel
theorem d_W_remove_56 : decode prog_1_method_5_code 56 = .ok (.aload_n 0, 1) := by decide +kernel
theorem d_W_remove_57 : decode prog_1_method_5_code 57 = .ok (.invokevirtual 121, 3) := by decide +kernel
theorem d_W_remove_60 : decode prog_1_method_5_code 60 = .ok (.iload_n 3, 1) := by decide +kernel
theorem d_W_remove_61 : decode prog_1_method_5_code 61 = .ok (.ifCond .eq 10, 3) := by decide +kernel
theorem d_W_remove_64 : decode prog_1_method_5_code 64 = .ok (.aload_n 2, 1) := by decide +kernel
theorem d_W_remove_65 : decode prog_1_method_5_code 65 = .ok (.getfield 124, 3) := by decide +kernel
theorem d_W_remove_68 : decode prog_1_method_5_code 68 = .ok (.goto 4, 3) := by decide +kernel
theorem d_W_remove_71 : decode prog_1_method_5_code 71 = .ok (.iconst (-1), 1) := by decide +kernel
theorem d_W_remove_72 : decode prog_1_method_5_code 72 = .ok (.ireturn, 1) := by decide +kernel
def y_W_refresh : MethodName := ⟨"WindowCache", "refresh", "(I)Z"⟩
theorem y_W_refresh_ok : y_W_refresh.cls ≠ "java/lang/invoke/MethodHandle" ∧ y_W_refresh.cls ≠ "java/lang/invoke/VarHandle" ∧ (parseMethodDescriptor y_W_refresh.desc).map (fun d => d.parameters.length) = some 1 := by decide +kernel
def rm_W_refresh : Room := { frames := 2, cells := 1, slots := 2, locals := 46 }
theorem d_W_refresh_0 : decode prog_1_method_7_code 0 = .ok (.iload_n 1, 1) := by decide +kernel
theorem d_W_refresh_1 : decode prog_1_method_7_code 1 = .ok (.invokestatic 90, 3) := by decide +kernel
theorem d_W_refresh_4 : decode prog_1_method_7_code 4 = .ok (.ifCond .eq 12, 3) := by decide +kernel
theorem d_W_refresh_7 : decode prog_1_method_7_code 7 = .ok (.aload_n 0, 1) := by decide +kernel
theorem d_W_refresh_8 : decode prog_1_method_7_code 8 = .ok (.getfield 11, 3) := by decide +kernel
theorem d_W_refresh_11 : decode prog_1_method_7_code 11 = .ok (.iload_n 1, 1) := by decide +kernel
theorem d_W_refresh_12 : decode prog_1_method_7_code 12 = .ok (.aaload, 1) := by decide +kernel
theorem d_W_refresh_13 : decode prog_1_method_7_code 13 = .ok (.goto 4, 3) := by decide +kernel
theorem d_W_refresh_16 : decode prog_1_method_7_code 16 = .ok (.aconst_null, 1) := by decide +kernel
theorem d_W_refresh_17 : decode prog_1_method_7_code 17 = .ok (.astore_n 2, 1) := by decide +kernel
theorem d_W_refresh_18 : decode prog_1_method_7_code 18 = .ok (.aload_n 2, 1) := by decide +kernel
theorem d_W_refresh_19 : decode prog_1_method_7_code 19 = .ok (.ifnull 20, 3) := by decide +kernel
theorem d_W_refresh_22 : decode prog_1_method_7_code 22 = .ok (.aload_n 0, 1) := by decide +kernel
theorem d_W_refresh_23 : decode prog_1_method_7_code 23 = .ok (.aload_n 2, 1) := by decide +kernel
theorem d_W_refresh_24 : decode prog_1_method_7_code 24 = .ok (.invokevirtual 98, 3) := by decide +kernel
theorem d_W_refresh_27 : decode prog_1_method_7_code 27 = .ok (.ifCond .eq 12, 3) := by decide +kernel
theorem d_W_refresh_30 : decode prog_1_method_7_code 30 = .ok (.aload_n 0, 1) := by decide +kernel
theorem d_W_refresh_31 : decode prog_1_method_7_code 31 = .ok (.getfield 17, 3) := by decide +kernel
theorem d_W_refresh_34 : decode prog_1_method_7_code 34 = .ok (.iload_n 1, 1) := by decide +kernel
theorem d_W_refresh_35 : decode prog_1_method_7_code 35 = .ok (.aaload, 1) := by decide +kernel
theorem d_W_refresh_36 : decode prog_1_method_7_code 36 = .ok (.ifnull 5, 3) := by decide +kernel
theorem d_W_refresh_39 : decode prog_1_method_7_code 39 = .ok (.iconst 0, 1) := by decide +kernel
theorem d_W_refresh_40 : decode prog_1_method_7_code 40 = .ok (.ireturn, 1) := by decide +kernel
theorem d_W_refresh_41 : decode prog_1_method_7_code 41 = .ok (.aload_n 0, 1) := by decide +kernel
theorem d_W_refresh_42 : decode prog_1_method_7_code 42 = .ok (.getfield 17, 3) := by decide +kernel
theorem d_W_refresh_45 : decode prog_1_method_7_code 45 = .ok (.iload_n 1, 1) := by decide +kernel
theorem d_W_refresh_46 : decode prog_1_method_7_code 46 = .ok (.new 15, 3) := by decide +kernel
theorem d_W_refresh_49 : decode prog_1_method_7_code 49 = .ok (.dup, 1) := by decide +kernel
theorem d_W_refresh_50 : decode prog_1_method_7_code 50 = .ok (.aload_n 2, 1) := by decide +kernel
theorem d_W_refresh_51 : decode prog_1_method_7_code 51 = .ok (.aload_n 2, 1) := by decide +kernel
theorem d_W_refresh_52 : decode prog_1_method_7_code 52 = .ok (.getfield 132, 3) := by decide +kernel
theorem d_W_refresh_55 : decode prog_1_method_7_code 55 = .ok (.invokespecial 130, 3) := by decide +kernel
theorem d_W_refresh_58 : decode prog_1_method_7_code 58 = .ok (.aastore, 1) := by decide +kernel
theorem d_W_refresh_59 : decode prog_1_method_7_code 59 = .ok (.iconst 1, 1) := by decide +kernel
theorem d_W_refresh_60 : decode prog_1_method_7_code 60 = .ok (.ireturn, 1) := by decide +kernel
def y_W_advance : MethodName := ⟨"WindowCache", "advance", "(I)J"⟩
theorem y_W_advance_ok : y_W_advance.cls ≠ "java/lang/invoke/MethodHandle" ∧ y_W_advance.cls ≠ "java/lang/invoke/VarHandle" ∧ (parseMethodDescriptor y_W_advance.desc).map (fun d => d.parameters.length) = some 1 := by decide +kernel
def rm_W_advance : Room := { frames := 0, cells := 0, slots := 0, locals := 0 }
theorem d_W_advance_0 : decode prog_1_method_10_code 0 = .ok (.iload_n 1, 1) := by decide +kernel
theorem d_W_advance_1 : decode prog_1_method_10_code 1 = .ok (.ifCond .lt 20, 3) := by decide +kernel
theorem d_W_advance_4 : decode prog_1_method_10_code 4 = .ok (.aload_n 0, 1) := by decide +kernel
theorem d_W_advance_5 : decode prog_1_method_10_code 5 = .ok (.getfield 63, 3) := by decide +kernel
theorem d_W_advance_8 : decode prog_1_method_10_code 8 = .ok (.getfield 145, 3) := by decide +kernel
theorem d_W_advance_11 : decode prog_1_method_10_code 11 = .ok (.iload_n 1, 1) := by decide +kernel
theorem d_W_advance_12 : decode prog_1_method_10_code 12 = .ok (.i2l, 1) := by decide +kernel
theorem d_W_advance_13 : decode prog_1_method_10_code 13 = .ok (.ladd, 1) := by decide +kernel
theorem d_W_advance_14 : decode prog_1_method_10_code 14 = .ok (.ldc2_w 149, 3) := by decide +kernel
theorem d_W_advance_17 : decode prog_1_method_10_code 17 = .ok (.lcmp, 1) := by decide +kernel
theorem d_W_advance_18 : decode prog_1_method_10_code 18 = .ok (.ifCond .le 7, 3) := by decide +kernel
theorem d_W_advance_21 : decode prog_1_method_10_code 21 = .ok (.ldc2_w 151, 3) := by decide +kernel
theorem d_W_advance_24 : decode prog_1_method_10_code 24 = .ok (.lreturn, 1) := by decide +kernel
theorem d_W_advance_25 : decode prog_1_method_10_code 25 = .ok (.aload_n 0, 1) := by decide +kernel
theorem d_W_advance_26 : decode prog_1_method_10_code 26 = .ok (.getfield 63, 3) := by decide +kernel
theorem d_W_advance_29 : decode prog_1_method_10_code 29 = .ok (.dup, 1) := by decide +kernel
theorem d_W_advance_30 : decode prog_1_method_10_code 30 = .ok (.getfield 145, 3) := by decide +kernel
theorem d_W_advance_33 : decode prog_1_method_10_code 33 = .ok (.iload_n 1, 1) := by decide +kernel
theorem d_W_advance_34 : decode prog_1_method_10_code 34 = .ok (.i2l, 1) := by decide +kernel
theorem d_W_advance_35 : decode prog_1_method_10_code 35 = .ok (.ladd, 1) := by decide +kernel
theorem d_W_advance_36 : decode prog_1_method_10_code 36 = .ok (.putfield 145, 3) := by decide +kernel
theorem d_W_advance_39 : decode prog_1_method_10_code 39 = .ok (.aload_n 0, 1) := by decide +kernel
theorem d_W_advance_40 : decode prog_1_method_10_code 40 = .ok (.getfield 63, 3) := by decide +kernel
theorem d_W_advance_43 : decode prog_1_method_10_code 43 = .ok (.getfield 145, 3) := by decide +kernel
theorem d_W_advance_46 : decode prog_1_method_10_code 46 = .ok (.lreturn, 1) := by decide +kernel
def y_W_maintain : MethodName := ⟨"WindowCache", "maintain", "()I"⟩
theorem y_W_maintain_ok : y_W_maintain.cls ≠ "java/lang/invoke/MethodHandle" ∧ y_W_maintain.cls ≠ "java/lang/invoke/VarHandle" ∧ (parseMethodDescriptor y_W_maintain.desc).map (fun d => d.parameters.length) = some 0 := by decide +kernel
def rm_W_maintain : Room := { frames := 5, cells := 0, slots := 0, locals := 116 }
theorem d_W_maintain_0 : decode prog_1_method_11_code 0 = .ok (.aload_n 0, 1) := by decide +kernel
theorem d_W_maintain_1 : decode prog_1_method_11_code 1 = .ok (.invokevirtual 121, 3) := by decide +kernel
theorem d_W_maintain_4 : decode prog_1_method_11_code 4 = .ok (.aload_n 0, 1) := by decide +kernel
theorem d_W_maintain_5 : decode prog_1_method_11_code 5 = .ok (.getfield 79, 3) := by decide +kernel
theorem d_W_maintain_8 : decode prog_1_method_11_code 8 = .ok (.invokevirtual 153, 3) := by decide +kernel
theorem d_W_maintain_11 : decode prog_1_method_11_code 11 = .ok (.ireturn, 1) := by decide +kernel
def y_W_entriesInMap : MethodName := ⟨"WindowCache", "entriesInMap", "(Z)I"⟩
theorem y_W_entriesInMap_ok : y_W_entriesInMap.cls ≠ "java/lang/invoke/MethodHandle" ∧ y_W_entriesInMap.cls ≠ "java/lang/invoke/VarHandle" ∧ (parseMethodDescriptor y_W_entriesInMap.desc).map (fun d => d.parameters.length) = some 1 := by decide +kernel
def rm_W_entriesInMap : Room := { frames := 1, cells := 0, slots := 0, locals := 21 }
theorem d_W_entriesInMap_0 : decode prog_1_method_24_code 0 = .ok (.iconst 0, 1) := by decide +kernel
theorem d_W_entriesInMap_1 : decode prog_1_method_24_code 1 = .ok (.istore_n 2, 1) := by decide +kernel
theorem d_W_entriesInMap_2 : decode prog_1_method_24_code 2 = .ok (.iconst 0, 1) := by decide +kernel
theorem d_W_entriesInMap_3 : decode prog_1_method_24_code 3 = .ok (.istore_n 3, 1) := by decide +kernel
theorem d_W_entriesInMap_4 : decode prog_1_method_24_code 4 = .ok (.iload_n 3, 1) := by decide +kernel
theorem d_W_entriesInMap_5 : decode prog_1_method_24_code 5 = .ok (.sipush 1000, 3) := by decide +kernel
theorem d_W_entriesInMap_8 : decode prog_1_method_24_code 8 = .ok (.if_icmp .ge 41, 3) := by decide +kernel
theorem d_W_entriesInMap_11 : decode prog_1_method_24_code 11 = .ok (.aload_n 0, 1) := by decide +kernel
theorem d_W_entriesInMap_12 : decode prog_1_method_24_code 12 = .ok (.getfield 11, 3) := by decide +kernel
theorem d_W_entriesInMap_15 : decode prog_1_method_24_code 15 = .ok (.iload_n 3, 1) := by decide +kernel
theorem d_W_entriesInMap_16 : decode prog_1_method_24_code 16 = .ok (.aaload, 1) := by decide +kernel
theorem d_W_entriesInMap_17 : decode prog_1_method_24_code 17 = .ok (.astore 4, 2) := by decide +kernel
theorem d_W_entriesInMap_19 : decode prog_1_method_24_code 19 = .ok (.aload 4, 2) := by decide +kernel
theorem d_W_entriesInMap_21 : decode prog_1_method_24_code 21 = .ok (.ifnull 22, 3) := by decide +kernel
theorem d_W_entriesInMap_24 : decode prog_1_method_24_code 24 = .ok (.iload_n 1, 1) := by decide +kernel
theorem d_W_entriesInMap_25 : decode prog_1_method_24_code 25 = .ok (.ifCond .eq 15, 3) := by decide +kernel
theorem d_W_entriesInMap_28 : decode prog_1_method_24_code 28 = .ok (.aload_n 0, 1) := by decide +kernel
theorem d_W_entriesInMap_29 : decode prog_1_method_24_code 29 = .ok (.getfield 63, 3) := by decide +kernel
theorem d_W_entriesInMap_32 : decode prog_1_method_24_code 32 = .ok (.aload 4, 2) := by decide +kernel
theorem d_W_entriesInMap_34 : decode prog_1_method_24_code 34 = .ok (.invokevirtual 212, 3) := by decide +kernel
theorem d_W_entriesInMap_37 : decode prog_1_method_24_code 37 = .ok (.ifCond .eq 6, 3) := by decide +kernel
theorem d_W_entriesInMap_40 : decode prog_1_method_24_code 40 = .ok (.iinc 2 1, 3) := by decide +kernel
theorem d_W_entriesInMap_43 : decode prog_1_method_24_code 43 = .ok (.iinc 3 1, 3) := by decide +kernel
theorem d_W_entriesInMap_46 : decode prog_1_method_24_code 46 = .ok (.goto (-42), 3) := by decide +kernel
theorem d_W_entriesInMap_49 : decode prog_1_method_24_code 49 = .ok (.iload_n 2, 1) := by decide +kernel
theorem d_W_entriesInMap_50 : decode prog_1_method_24_code 50 = .ok (.ireturn, 1) := by decide +kernel
def y_W_keysOnTheirWay : MethodName := ⟨"WindowCache", "keysOnTheirWay", "()I"⟩
theorem y_W_keysOnTheirWay_ok : y_W_keysOnTheirWay.cls ≠ "java/lang/invoke/MethodHandle" ∧ y_W_keysOnTheirWay.cls ≠ "java/lang/invoke/VarHandle" ∧ (parseMethodDescriptor y_W_keysOnTheirWay.desc).map (fun d => d.parameters.length) = some 0 := by decide +kernel
def rm_W_keysOnTheirWay : Room := { frames := 0, cells := 0, slots := 0, locals := 0 }
theorem d_W_keysOnTheirWay_0 : decode prog_1_method_25_code 0 = .ok (.iconst 0, 1) := by decide +kernel
theorem d_W_keysOnTheirWay_1 : decode prog_1_method_25_code 1 = .ok (.istore_n 1, 1) := by decide +kernel
theorem d_W_keysOnTheirWay_2 : decode prog_1_method_25_code 2 = .ok (.iconst 0, 1) := by decide +kernel
theorem d_W_keysOnTheirWay_3 : decode prog_1_method_25_code 3 = .ok (.istore_n 2, 1) := by decide +kernel
theorem d_W_keysOnTheirWay_4 : decode prog_1_method_25_code 4 = .ok (.iload_n 2, 1) := by decide +kernel
theorem d_W_keysOnTheirWay_5 : decode prog_1_method_25_code 5 = .ok (.sipush 1000, 3) := by decide +kernel
theorem d_W_keysOnTheirWay_8 : decode prog_1_method_25_code 8 = .ok (.if_icmp .ge 21, 3) := by decide +kernel
theorem d_W_keysOnTheirWay_11 : decode prog_1_method_25_code 11 = .ok (.aload_n 0, 1) := by decide +kernel
theorem d_W_keysOnTheirWay_12 : decode prog_1_method_25_code 12 = .ok (.getfield 17, 3) := by decide +kernel
theorem d_W_keysOnTheirWay_15 : decode prog_1_method_25_code 15 = .ok (.iload_n 2, 1) := by decide +kernel
theorem d_W_keysOnTheirWay_16 : decode prog_1_method_25_code 16 = .ok (.aaload, 1) := by decide +kernel
theorem d_W_keysOnTheirWay_17 : decode prog_1_method_25_code 17 = .ok (.ifnull 6, 3) := by decide +kernel
theorem d_W_keysOnTheirWay_20 : decode prog_1_method_25_code 20 = .ok (.iinc 1 1, 3) := by decide +kernel
theorem d_W_keysOnTheirWay_23 : decode prog_1_method_25_code 23 = .ok (.iinc 2 1, 3) := by decide +kernel
theorem d_W_keysOnTheirWay_26 : decode prog_1_method_25_code 26 = .ok (.goto (-22), 3) := by decide +kernel
theorem d_W_keysOnTheirWay_29 : decode prog_1_method_25_code 29 = .ok (.iload_n 1, 1) := by decide +kernel
theorem d_W_keysOnTheirWay_30 : decode prog_1_method_25_code 30 = .ok (.ireturn, 1) := by decide +kernel
def y_W_count : MethodName := ⟨"WindowCache", "count", "(I)I"⟩
theorem y_W_count_ok : y_W_count.cls ≠ "java/lang/invoke/MethodHandle" ∧ y_W_count.cls ≠ "java/lang/invoke/VarHandle" ∧ (parseMethodDescriptor y_W_count.desc).map (fun d => d.parameters.length) = some 1 := by decide +kernel
def rm_W_count : Room := { frames := 2, cells := 0, slots := 0, locals := 45 }
theorem d_W_count_0 : decode prog_1_method_12_code 0 = .ok (.iload_n 1, 1) := by decide +kernel
theorem d_W_count_1 : decode prog_1_method_12_code 1 = .ok (.tableswitch 237 0 17 #[87, 93, 99, 107, 118, 129, 140, 148, 156, 164, 169, 174, 179, 184, 200, 208, 216, 232], 87) := by decide +kernel
theorem d_W_count_88 : decode prog_1_method_12_code 88 = .ok (.aload_n 0, 1) := by decide +kernel
theorem d_W_count_89 : decode prog_1_method_12_code 89 = .ok (.iconst 0, 1) := by decide +kernel
theorem d_W_count_90 : decode prog_1_method_12_code 90 = .ok (.invokevirtual 157, 3) := by decide +kernel
theorem d_W_count_93 : decode prog_1_method_12_code 93 = .ok (.ireturn, 1) := by decide +kernel
theorem d_W_count_94 : decode prog_1_method_12_code 94 = .ok (.aload_n 0, 1) := by decide +kernel
theorem d_W_count_95 : decode prog_1_method_12_code 95 = .ok (.iconst 1, 1) := by decide +kernel
theorem d_W_count_96 : decode prog_1_method_12_code 96 = .ok (.invokevirtual 157, 3) := by decide +kernel
theorem d_W_count_99 : decode prog_1_method_12_code 99 = .ok (.ireturn, 1) := by decide +kernel
theorem d_W_count_100 : decode prog_1_method_12_code 100 = .ok (.aload_n 0, 1) := by decide +kernel
theorem d_W_count_101 : decode prog_1_method_12_code 101 = .ok (.getfield 79, 3) := by decide +kernel
theorem d_W_count_104 : decode prog_1_method_12_code 104 = .ok (.invokevirtual 153, 3) := by decide +kernel
theorem d_W_count_107 : decode prog_1_method_12_code 107 = .ok (.ireturn, 1) := by decide +kernel
theorem d_W_count_108 : decode prog_1_method_12_code 108 = .ok (.aload_n 0, 1) := by decide +kernel
theorem d_W_count_109 : decode prog_1_method_12_code 109 = .ok (.getfield 79, 3) := by decide +kernel
theorem d_W_count_112 : decode prog_1_method_12_code 112 = .ok (.getfield 161, 3) := by decide +kernel
theorem d_W_count_115 : decode prog_1_method_12_code 115 = .ok (.getfield 165, 3) := by decide +kernel
theorem d_W_count_118 : decode prog_1_method_12_code 118 = .ok (.ireturn, 1) := by decide +kernel
theorem d_W_count_119 : decode prog_1_method_12_code 119 = .ok (.aload_n 0, 1) := by decide +kernel
theorem d_W_count_120 : decode prog_1_method_12_code 120 = .ok (.getfield 79, 3) := by decide +kernel
theorem d_W_count_123 : decode prog_1_method_12_code 123 = .ok (.getfield 169, 3) := by decide +kernel
theorem d_W_count_126 : decode prog_1_method_12_code 126 = .ok (.getfield 165, 3) := by decide +kernel
theorem d_W_count_129 : decode prog_1_method_12_code 129 = .ok (.ireturn, 1) := by decide +kernel
theorem d_W_count_130 : decode prog_1_method_12_code 130 = .ok (.aload_n 0, 1) := by decide +kernel
theorem d_W_count_131 : decode prog_1_method_12_code 131 = .ok (.getfield 79, 3) := by decide +kernel
theorem d_W_count_134 : decode prog_1_method_12_code 134 = .ok (.getfield 172, 3) := by decide +kernel
theorem d_W_count_137 : decode prog_1_method_12_code 137 = .ok (.getfield 165, 3) := by decide +kernel
theorem d_W_count_140 : decode prog_1_method_12_code 140 = .ok (.ireturn, 1) := by decide +kernel
theorem d_W_count_141 : decode prog_1_method_12_code 141 = .ok (.aload_n 0, 1) := by decide +kernel
theorem d_W_count_142 : decode prog_1_method_12_code 142 = .ok (.getfield 79, 3) := by decide +kernel
theorem d_W_count_145 : decode prog_1_method_12_code 145 = .ok (.getfield 175, 3) := by decide +kernel
theorem d_W_count_148 : decode prog_1_method_12_code 148 = .ok (.ireturn, 1) := by decide +kernel
theorem d_W_count_149 : decode prog_1_method_12_code 149 = .ok (.aload_n 0, 1) := by decide +kernel
theorem d_W_count_150 : decode prog_1_method_12_code 150 = .ok (.getfield 86, 3) := by decide +kernel
theorem d_W_count_153 : decode prog_1_method_12_code 153 = .ok (.getfield 178, 3) := by decide +kernel
theorem d_W_count_156 : decode prog_1_method_12_code 156 = .ok (.ireturn, 1) := by decide +kernel
theorem d_W_count_157 : decode prog_1_method_12_code 157 = .ok (.aload_n 0, 1) := by decide +kernel
theorem d_W_count_158 : decode prog_1_method_12_code 158 = .ok (.getfield 86, 3) := by decide +kernel
theorem d_W_count_161 : decode prog_1_method_12_code 161 = .ok (.getfield 181, 3) := by decide +kernel
theorem d_W_count_164 : decode prog_1_method_12_code 164 = .ok (.ireturn, 1) := by decide +kernel
theorem d_W_count_165 : decode prog_1_method_12_code 165 = .ok (.aload_n 0, 1) := by decide +kernel
theorem d_W_count_166 : decode prog_1_method_12_code 166 = .ok (.getfield 135, 3) := by decide +kernel
theorem d_W_count_169 : decode prog_1_method_12_code 169 = .ok (.ireturn, 1) := by decide +kernel
theorem d_W_count_170 : decode prog_1_method_12_code 170 = .ok (.aload_n 0, 1) := by decide +kernel
theorem d_W_count_171 : decode prog_1_method_12_code 171 = .ok (.getfield 142, 3) := by decide +kernel
theorem d_W_count_174 : decode prog_1_method_12_code 174 = .ok (.ireturn, 1) := by decide +kernel
theorem d_W_count_175 : decode prog_1_method_12_code 175 = .ok (.aload_n 0, 1) := by decide +kernel
theorem d_W_count_176 : decode prog_1_method_12_code 176 = .ok (.getfield 184, 3) := by decide +kernel
theorem d_W_count_179 : decode prog_1_method_12_code 179 = .ok (.ireturn, 1) := by decide +kernel
theorem d_W_count_180 : decode prog_1_method_12_code 180 = .ok (.aload_n 0, 1) := by decide +kernel
theorem d_W_count_181 : decode prog_1_method_12_code 181 = .ok (.getfield 187, 3) := by decide +kernel
theorem d_W_count_184 : decode prog_1_method_12_code 184 = .ok (.ireturn, 1) := by decide +kernel
theorem d_W_count_185 : decode prog_1_method_12_code 185 = .ok (.aload_n 0, 1) := by decide +kernel
theorem d_W_count_186 : decode prog_1_method_12_code 186 = .ok (.getfield 24, 3) := by decide +kernel
theorem d_W_count_189 : decode prog_1_method_12_code 189 = .ok (.getfield 190, 3) := by decide +kernel
theorem d_W_count_192 : decode prog_1_method_12_code 192 = .ok (.aload_n 0, 1) := by decide +kernel
theorem d_W_count_193 : decode prog_1_method_12_code 193 = .ok (.getfield 28, 3) := by decide +kernel
theorem d_W_count_196 : decode prog_1_method_12_code 196 = .ok (.getfield 190, 3) := by decide +kernel
theorem d_W_count_199 : decode prog_1_method_12_code 199 = .ok (.iadd, 1) := by decide +kernel
theorem d_W_count_200 : decode prog_1_method_12_code 200 = .ok (.ireturn, 1) := by decide +kernel
theorem d_W_count_201 : decode prog_1_method_12_code 201 = .ok (.aload_n 0, 1) := by decide +kernel
theorem d_W_count_202 : decode prog_1_method_12_code 202 = .ok (.getfield 34, 3) := by decide +kernel
theorem d_W_count_205 : decode prog_1_method_12_code 205 = .ok (.getfield 193, 3) := by decide +kernel
theorem d_W_count_208 : decode prog_1_method_12_code 208 = .ok (.ireturn, 1) := by decide +kernel
theorem d_W_count_209 : decode prog_1_method_12_code 209 = .ok (.aload_n 0, 1) := by decide +kernel
theorem d_W_count_210 : decode prog_1_method_12_code 210 = .ok (.getfield 72, 3) := by decide +kernel
theorem d_W_count_213 : decode prog_1_method_12_code 213 = .ok (.getfield 194, 3) := by decide +kernel
theorem d_W_count_216 : decode prog_1_method_12_code 216 = .ok (.ireturn, 1) := by decide +kernel
theorem d_W_count_217 : decode prog_1_method_12_code 217 = .ok (.aload_n 0, 1) := by decide +kernel
theorem d_W_count_218 : decode prog_1_method_12_code 218 = .ok (.getfield 24, 3) := by decide +kernel
theorem d_W_count_221 : decode prog_1_method_12_code 221 = .ok (.getfield 197, 3) := by decide +kernel
theorem d_W_count_224 : decode prog_1_method_12_code 224 = .ok (.aload_n 0, 1) := by decide +kernel
theorem d_W_count_225 : decode prog_1_method_12_code 225 = .ok (.getfield 28, 3) := by decide +kernel
theorem d_W_count_228 : decode prog_1_method_12_code 228 = .ok (.getfield 197, 3) := by decide +kernel
theorem d_W_count_231 : decode prog_1_method_12_code 231 = .ok (.iadd, 1) := by decide +kernel
theorem d_W_count_232 : decode prog_1_method_12_code 232 = .ok (.ireturn, 1) := by decide +kernel
theorem d_W_count_233 : decode prog_1_method_12_code 233 = .ok (.aload_n 0, 1) := by decide +kernel
theorem d_W_count_234 : decode prog_1_method_12_code 234 = .ok (.invokevirtual 200, 3) := by decide +kernel
theorem d_W_count_237 : decode prog_1_method_12_code 237 = .ok (.ireturn, 1) := by decide +kernel
theorem d_W_count_238 : decode prog_1_method_12_code 238 = .ok (.iconst (-1), 1) := by decide +kernel
theorem d_W_count_239 : decode prog_1_method_12_code 239 = .ok (.ireturn, 1) := by decide +kernel
def y_W_often : MethodName := ⟨"WindowCache", "often", "(I)I"⟩
theorem y_W_often_ok : y_W_often.cls ≠ "java/lang/invoke/MethodHandle" ∧ y_W_often.cls ≠ "java/lang/invoke/VarHandle" ∧ (parseMethodDescriptor y_W_often.desc).map (fun d => d.parameters.length) = some 1 := by decide +kernel
def rm_W_often : Room := { frames := 2, cells := 0, slots := 0, locals := 48 }
theorem d_W_often_0 : decode prog_1_method_13_code 0 = .ok (.iload_n 1, 1) := by decide +kernel
theorem d_W_often_1 : decode prog_1_method_13_code 1 = .ok (.invokestatic 90, 3) := by decide +kernel
theorem d_W_often_4 : decode prog_1_method_13_code 4 = .ok (.ifCond .eq 14, 3) := by decide +kernel
theorem d_W_often_7 : decode prog_1_method_13_code 7 = .ok (.aload_n 0, 1) := by decide +kernel
theorem d_W_often_8 : decode prog_1_method_13_code 8 = .ok (.getfield 72, 3) := by decide +kernel
theorem d_W_often_11 : decode prog_1_method_13_code 11 = .ok (.iload_n 1, 1) := by decide +kernel
theorem d_W_often_12 : decode prog_1_method_13_code 12 = .ok (.invokevirtual 203, 3) := by decide +kernel
theorem d_W_often_15 : decode prog_1_method_13_code 15 = .ok (.goto 4, 3) := by decide +kernel
theorem d_W_often_18 : decode prog_1_method_13_code 18 = .ok (.iconst (-1), 1) := by decide +kernel
theorem d_W_often_19 : decode prog_1_method_13_code 19 = .ok (.ireturn, 1) := by decide +kernel
def y_W_at : MethodName := ⟨"WindowCache", "at", "(II)I"⟩
theorem y_W_at_ok : y_W_at.cls ≠ "java/lang/invoke/MethodHandle" ∧ y_W_at.cls ≠ "java/lang/invoke/VarHandle" ∧ (parseMethodDescriptor y_W_at.desc).map (fun d => d.parameters.length) = some 2 := by decide +kernel
def rm_W_at : Room := { frames := 1, cells := 0, slots := 0, locals := 23 }
theorem d_W_at_0 : decode prog_1_method_14_code 0 = .ok (.iload_n 1, 1) := by decide +kernel
theorem d_W_at_1 : decode prog_1_method_14_code 1 = .ok (.tableswitch 63 0 2 #[27, 39, 51], 27) := by decide +kernel
theorem d_W_at_28 : decode prog_1_method_14_code 28 = .ok (.aload_n 0, 1) := by decide +kernel
theorem d_W_at_29 : decode prog_1_method_14_code 29 = .ok (.getfield 79, 3) := by decide +kernel
theorem d_W_at_32 : decode prog_1_method_14_code 32 = .ok (.getfield 161, 3) := by decide +kernel
theorem d_W_at_35 : decode prog_1_method_14_code 35 = .ok (.iload_n 2, 1) := by decide +kernel
theorem d_W_at_36 : decode prog_1_method_14_code 36 = .ok (.invokevirtual 206, 3) := by decide +kernel
theorem d_W_at_39 : decode prog_1_method_14_code 39 = .ok (.ireturn, 1) := by decide +kernel
theorem d_W_at_40 : decode prog_1_method_14_code 40 = .ok (.aload_n 0, 1) := by decide +kernel
theorem d_W_at_41 : decode prog_1_method_14_code 41 = .ok (.getfield 79, 3) := by decide +kernel
theorem d_W_at_44 : decode prog_1_method_14_code 44 = .ok (.getfield 169, 3) := by decide +kernel
theorem d_W_at_47 : decode prog_1_method_14_code 47 = .ok (.iload_n 2, 1) := by decide +kernel
theorem d_W_at_48 : decode prog_1_method_14_code 48 = .ok (.invokevirtual 206, 3) := by decide +kernel
theorem d_W_at_51 : decode prog_1_method_14_code 51 = .ok (.ireturn, 1) := by decide +kernel
theorem d_W_at_52 : decode prog_1_method_14_code 52 = .ok (.aload_n 0, 1) := by decide +kernel
theorem d_W_at_53 : decode prog_1_method_14_code 53 = .ok (.getfield 79, 3) := by decide +kernel
theorem d_W_at_56 : decode prog_1_method_14_code 56 = .ok (.getfield 172, 3) := by decide +kernel
theorem d_W_at_59 : decode prog_1_method_14_code 59 = .ok (.iload_n 2, 1) := by decide +kernel
theorem d_W_at_60 : decode prog_1_method_14_code 60 = .ok (.invokevirtual 206, 3) := by decide +kernel
theorem d_W_at_63 : decode prog_1_method_14_code 63 = .ok (.ireturn, 1) := by decide +kernel
theorem d_W_at_64 : decode prog_1_method_14_code 64 = .ok (.iconst (-1), 1) := by decide +kernel
theorem d_W_at_65 : decode prog_1_method_14_code 65 = .ok (.ireturn, 1) := by decide +kernel
def y_W_listened : MethodName := ⟨"WindowCache", "listened", "(II)I"⟩
theorem y_W_listened_ok : y_W_listened.cls ≠ "java/lang/invoke/MethodHandle" ∧ y_W_listened.cls ≠ "java/lang/invoke/VarHandle" ∧ (parseMethodDescriptor y_W_listened.desc).map (fun d => d.parameters.length) = some 2 := by decide +kernel
def rm_W_listened : Room := { frames := 1, cells := 0, slots := 0, locals := 22 }
theorem d_W_listened_0 : decode prog_1_method_15_code 0 = .ok (.aload_n 0, 1) := by decide +kernel
theorem d_W_listened_1 : decode prog_1_method_15_code 1 = .ok (.getfield 41, 3) := by decide +kernel
theorem d_W_listened_4 : decode prog_1_method_15_code 4 = .ok (.iload_n 1, 1) := by decide +kernel
theorem d_W_listened_5 : decode prog_1_method_15_code 5 = .ok (.iload_n 2, 1) := by decide +kernel
theorem d_W_listened_6 : decode prog_1_method_15_code 6 = .ok (.invokevirtual 209, 3) := by decide +kernel
theorem d_W_listened_9 : decode prog_1_method_15_code 9 = .ok (.ireturn, 1) := by decide +kernel
def y_W_isValue : MethodName := ⟨"WindowCache", "isValue", "(II)Z"⟩
theorem y_W_isValue_ok : y_W_isValue.cls ≠ "java/lang/invoke/MethodHandle" ∧ y_W_isValue.cls ≠ "java/lang/invoke/VarHandle" ∧ (parseMethodDescriptor y_W_isValue.desc).map (fun d => d.parameters.length) = some 2 := by decide +kernel
def rm_W_isValue : Room := { frames := 0, cells := 0, slots := 0, locals := 0 }
theorem d_W_isValue_0 : decode prog_1_method_17_code 0 = .ok (.iload_n 0, 1) := by decide +kernel
theorem d_W_isValue_1 : decode prog_1_method_17_code 1 = .ok (.ifCond .lt 19, 3) := by decide +kernel
theorem d_W_isValue_4 : decode prog_1_method_17_code 4 = .ok (.iload_n 1, 1) := by decide +kernel
theorem d_W_isValue_5 : decode prog_1_method_17_code 5 = .ok (.iconst 1, 1) := by decide +kernel
theorem d_W_isValue_6 : decode prog_1_method_17_code 6 = .ok (.if_icmp .lt 14, 3) := by decide +kernel
theorem d_W_isValue_9 : decode prog_1_method_17_code 9 = .ok (.iload_n 1, 1) := by decide +kernel
theorem d_W_isValue_10 : decode prog_1_method_17_code 10 = .ok (.sipush 1000, 3) := by decide +kernel
theorem d_W_isValue_13 : decode prog_1_method_17_code 13 = .ok (.if_icmp .gt 7, 3) := by decide +kernel
theorem d_W_isValue_16 : decode prog_1_method_17_code 16 = .ok (.iconst 1, 1) := by decide +kernel
theorem d_W_isValue_17 : decode prog_1_method_17_code 17 = .ok (.goto 4, 3) := by decide +kernel
theorem d_W_isValue_20 : decode prog_1_method_17_code 20 = .ok (.iconst 0, 1) := by decide +kernel
theorem d_W_isValue_21 : decode prog_1_method_17_code 21 = .ok (.ireturn, 1) := by decide +kernel
def y_W_fill : MethodName := ⟨"WindowCache", "fill", "(LWindowCache$Entry;III)V"⟩
theorem y_W_fill_ok : y_W_fill.cls ≠ "java/lang/invoke/MethodHandle" ∧ y_W_fill.cls ≠ "java/lang/invoke/VarHandle" ∧ (parseMethodDescriptor y_W_fill.desc).map (fun d => d.parameters.length) = some 4 := by decide +kernel
def rm_W_fill : Room := { frames := 3, cells := 0, slots := 0, locals := 68 }
theorem d_W_fill_0 : decode prog_1_method_22_code 0 = .ok (.aload_n 1, 1) := by decide +kernel
theorem d_W_fill_1 : decode prog_1_method_22_code 1 = .ok (.getfield 234, 3) := by decide +kernel
theorem d_W_fill_4 : decode prog_1_method_22_code 4 = .ok (.ifnull 21, 3) := by decide +kernel
theorem d_W_fill_7 : decode prog_1_method_22_code 7 = .ok (.aload_n 1, 1) := by decide +kernel
theorem d_W_fill_8 : decode prog_1_method_22_code 8 = .ok (.getfield 234, 3) := by decide +kernel
theorem d_W_fill_11 : decode prog_1_method_22_code 11 = .ok (.dup, 1) := by decide +kernel
theorem d_W_fill_12 : decode prog_1_method_22_code 12 = .ok (.getfield 165, 3) := by decide +kernel
theorem d_W_fill_15 : decode prog_1_method_22_code 15 = .ok (.iload_n 3, 1) := by decide +kernel
theorem d_W_fill_16 : decode prog_1_method_22_code 16 = .ok (.aload_n 1, 1) := by decide +kernel
theorem d_W_fill_17 : decode prog_1_method_22_code 17 = .ok (.getfield 237, 3) := by decide +kernel
theorem d_W_fill_20 : decode prog_1_method_22_code 20 = .ok (.isub, 1) := by decide +kernel
theorem d_W_fill_21 : decode prog_1_method_22_code 21 = .ok (.iadd, 1) := by decide +kernel
theorem d_W_fill_22 : decode prog_1_method_22_code 22 = .ok (.putfield 165, 3) := by decide +kernel
theorem d_W_fill_25 : decode prog_1_method_22_code 25 = .ok (.aload_n 1, 1) := by decide +kernel
theorem d_W_fill_26 : decode prog_1_method_22_code 26 = .ok (.iload_n 2, 1) := by decide +kernel
theorem d_W_fill_27 : decode prog_1_method_22_code 27 = .ok (.putfield 124, 3) := by decide +kernel
theorem d_W_fill_30 : decode prog_1_method_22_code 30 = .ok (.aload_n 1, 1) := by decide +kernel
theorem d_W_fill_31 : decode prog_1_method_22_code 31 = .ok (.iload_n 3, 1) := by decide +kernel
theorem d_W_fill_32 : decode prog_1_method_22_code 32 = .ok (.putfield 237, 3) := by decide +kernel
theorem d_W_fill_35 : decode prog_1_method_22_code 35 = .ok (.aload_n 1, 1) := by decide +kernel
theorem d_W_fill_36 : decode prog_1_method_22_code 36 = .ok (.dup, 1) := by decide +kernel
theorem d_W_fill_37 : decode prog_1_method_22_code 37 = .ok (.getfield 132, 3) := by decide +kernel
theorem d_W_fill_40 : decode prog_1_method_22_code 40 = .ok (.iconst 1, 1) := by decide +kernel
theorem d_W_fill_41 : decode prog_1_method_22_code 41 = .ok (.iadd, 1) := by decide +kernel
theorem d_W_fill_42 : decode prog_1_method_22_code 42 = .ok (.putfield 132, 3) := by decide +kernel
theorem d_W_fill_45 : decode prog_1_method_22_code 45 = .ok (.aload_n 0, 1) := by decide +kernel
theorem d_W_fill_46 : decode prog_1_method_22_code 46 = .ok (.getfield 63, 3) := by decide +kernel
theorem d_W_fill_49 : decode prog_1_method_22_code 49 = .ok (.aload_n 1, 1) := by decide +kernel
theorem d_W_fill_50 : decode prog_1_method_22_code 50 = .ok (.iload 4, 2) := by decide +kernel
theorem d_W_fill_52 : decode prog_1_method_22_code 52 = .ok (.invokevirtual 238, 3) := by decide +kernel
theorem d_W_fill_55 : decode prog_1_method_22_code 55 = .ok (.return_, 1) := by decide +kernel
def y_W_store : MethodName := ⟨"WindowCache", "store", "(IIII)Z"⟩
theorem y_W_store_ok : y_W_store.cls ≠ "java/lang/invoke/MethodHandle" ∧ y_W_store.cls ≠ "java/lang/invoke/VarHandle" ∧ (parseMethodDescriptor y_W_store.desc).map (fun d => d.parameters.length) = some 4 := by decide +kernel
def rm_W_store : Room := { frames := 5, cells := 1, slots := 11, locals := 116 }
theorem d_W_store_0 : decode prog_1_method_21_code 0 = .ok (.aload_n 0, 1) := by decide +kernel
theorem d_W_store_1 : decode prog_1_method_21_code 1 = .ok (.getfield 11, 3) := by decide +kernel
theorem d_W_store_4 : decode prog_1_method_21_code 4 = .ok (.iload_n 1, 1) := by decide +kernel
theorem d_W_store_5 : decode prog_1_method_21_code 5 = .ok (.aaload, 1) := by decide +kernel
theorem d_W_store_6 : decode prog_1_method_21_code 6 = .ok (.astore 5, 2) := by decide +kernel
theorem d_W_store_8 : decode prog_1_method_21_code 8 = .ok (.aload 5, 2) := by decide +kernel
theorem d_W_store_10 : decode prog_1_method_21_code 10 = .ok (.ifnull 51, 3) := by decide +kernel
theorem d_W_store_13 : decode prog_1_method_21_code 13 = .ok (.aload_n 0, 1) := by decide +kernel
theorem d_W_store_14 : decode prog_1_method_21_code 14 = .ok (.aload 5, 2) := by decide +kernel
theorem d_W_store_16 : decode prog_1_method_21_code 16 = .ok (.invokevirtual 98, 3) := by decide +kernel
theorem d_W_store_19 : decode prog_1_method_21_code 19 = .ok (.ifCond .eq 42, 3) := by decide +kernel
theorem d_W_store_22 : decode prog_1_method_21_code 22 = .ok (.aload_n 0, 1) := by decide +kernel
theorem d_W_store_23 : decode prog_1_method_21_code 23 = .ok (.getfield 41, 3) := by decide +kernel
theorem d_W_store_26 : decode prog_1_method_21_code 26 = .ok (.aload 5, 2) := by decide +kernel
theorem d_W_store_28 : decode prog_1_method_21_code 28 = .ok (.iconst 1, 1) := by decide +kernel
theorem d_W_store_29 : decode prog_1_method_21_code 29 = .ok (.invokevirtual 227, 3) := by decide +kernel
theorem d_W_store_32 : decode prog_1_method_21_code 32 = .ok (.aload_n 0, 1) := by decide +kernel
theorem d_W_store_33 : decode prog_1_method_21_code 33 = .ok (.aload 5, 2) := by decide +kernel
theorem d_W_store_35 : decode prog_1_method_21_code 35 = .ok (.iload_n 2, 1) := by decide +kernel
theorem d_W_store_36 : decode prog_1_method_21_code 36 = .ok (.iload_n 3, 1) := by decide +kernel
theorem d_W_store_37 : decode prog_1_method_21_code 37 = .ok (.iload 4, 2) := by decide +kernel
theorem d_W_store_39 : decode prog_1_method_21_code 39 = .ok (.invokevirtual 229, 3) := by decide +kernel
theorem d_W_store_42 : decode prog_1_method_21_code 42 = .ok (.aload_n 0, 1) := by decide +kernel
theorem d_W_store_43 : decode prog_1_method_21_code 43 = .ok (.getfield 34, 3) := by decide +kernel
theorem d_W_store_46 : decode prog_1_method_21_code 46 = .ok (.iconst 1, 1) := by decide +kernel
theorem d_W_store_47 : decode prog_1_method_21_code 47 = .ok (.aload 5, 2) := by decide +kernel
theorem d_W_store_49 : decode prog_1_method_21_code 49 = .ok (.invokevirtual 117, 3) := by decide +kernel
theorem d_W_store_52 : decode prog_1_method_21_code 52 = .ok (.ifCond .eq 7, 3) := by decide +kernel
theorem d_W_store_55 : decode prog_1_method_21_code 55 = .ok (.aload_n 0, 1) := by decide +kernel
theorem d_W_store_56 : decode prog_1_method_21_code 56 = .ok (.invokevirtual 121, 3) := by decide +kernel
theorem d_W_store_59 : decode prog_1_method_21_code 59 = .ok (.iconst 1, 1) := by decide +kernel
theorem d_W_store_60 : decode prog_1_method_21_code 60 = .ok (.ireturn, 1) := by decide +kernel
theorem d_W_store_61 : decode prog_1_method_21_code 61 = .ok (.aload 5, 2) := by decide +kernel
theorem d_W_store_63 : decode prog_1_method_21_code 63 = .ok (.ifnull 27, 3) := by decide +kernel
theorem d_W_store_66 : decode prog_1_method_21_code 66 = .ok (.aload_n 0, 1) := by decide +kernel
theorem d_W_store_67 : decode prog_1_method_21_code 67 = .ok (.aload 5, 2) := by decide +kernel
theorem d_W_store_69 : decode prog_1_method_21_code 69 = .ok (.iconst 2, 1) := by decide +kernel
theorem d_W_store_70 : decode prog_1_method_21_code 70 = .ok (.invokevirtual 113, 3) := by decide +kernel
theorem d_W_store_73 : decode prog_1_method_21_code 73 = .ok (.aload_n 0, 1) := by decide +kernel
theorem d_W_store_74 : decode prog_1_method_21_code 74 = .ok (.getfield 34, 3) := by decide +kernel
theorem d_W_store_77 : decode prog_1_method_21_code 77 = .ok (.iconst 2, 1) := by decide +kernel
theorem d_W_store_78 : decode prog_1_method_21_code 78 = .ok (.aload 5, 2) := by decide +kernel
theorem d_W_store_80 : decode prog_1_method_21_code 80 = .ok (.invokevirtual 117, 3) := by decide +kernel
theorem d_W_store_83 : decode prog_1_method_21_code 83 = .ok (.ifCond .eq 7, 3) := by decide +kernel
theorem d_W_store_86 : decode prog_1_method_21_code 86 = .ok (.aload_n 0, 1) := by decide +kernel
theorem d_W_store_87 : decode prog_1_method_21_code 87 = .ok (.invokevirtual 121, 3) := by decide +kernel
theorem d_W_store_90 : decode prog_1_method_21_code 90 = .ok (.new 9, 3) := by decide +kernel
theorem d_W_store_93 : decode prog_1_method_21_code 93 = .ok (.dup, 1) := by decide +kernel
theorem d_W_store_94 : decode prog_1_method_21_code 94 = .ok (.iload_n 1, 1) := by decide +kernel
theorem d_W_store_95 : decode prog_1_method_21_code 95 = .ok (.invokespecial 233, 3) := by decide +kernel
theorem d_W_store_98 : decode prog_1_method_21_code 98 = .ok (.astore 6, 2) := by decide +kernel
theorem d_W_store_100 : decode prog_1_method_21_code 100 = .ok (.aload_n 0, 1) := by decide +kernel
theorem d_W_store_101 : decode prog_1_method_21_code 101 = .ok (.aload 6, 2) := by decide +kernel
theorem d_W_store_103 : decode prog_1_method_21_code 103 = .ok (.iload_n 2, 1) := by decide +kernel
theorem d_W_store_104 : decode prog_1_method_21_code 104 = .ok (.iload_n 3, 1) := by decide +kernel
theorem d_W_store_105 : decode prog_1_method_21_code 105 = .ok (.iload 4, 2) := by decide +kernel
theorem d_W_store_107 : decode prog_1_method_21_code 107 = .ok (.invokevirtual 229, 3) := by decide +kernel
theorem d_W_store_110 : decode prog_1_method_21_code 110 = .ok (.aload_n 0, 1) := by decide +kernel
theorem d_W_store_111 : decode prog_1_method_21_code 111 = .ok (.getfield 11, 3) := by decide +kernel
theorem d_W_store_114 : decode prog_1_method_21_code 114 = .ok (.iload_n 1, 1) := by decide +kernel
theorem d_W_store_115 : decode prog_1_method_21_code 115 = .ok (.aload 6, 2) := by decide +kernel
theorem d_W_store_117 : decode prog_1_method_21_code 117 = .ok (.aastore, 1) := by decide +kernel
theorem d_W_store_118 : decode prog_1_method_21_code 118 = .ok (.aload_n 0, 1) := by decide +kernel
theorem d_W_store_119 : decode prog_1_method_21_code 119 = .ok (.getfield 34, 3) := by decide +kernel
theorem d_W_store_122 : decode prog_1_method_21_code 122 = .ok (.iconst 0, 1) := by decide +kernel
theorem d_W_store_123 : decode prog_1_method_21_code 123 = .ok (.aload 6, 2) := by decide +kernel
theorem d_W_store_125 : decode prog_1_method_21_code 125 = .ok (.invokevirtual 117, 3) := by decide +kernel
theorem d_W_store_128 : decode prog_1_method_21_code 128 = .ok (.ifCond .eq 7, 3) := by decide +kernel
theorem d_W_store_131 : decode prog_1_method_21_code 131 = .ok (.aload_n 0, 1) := by decide +kernel
theorem d_W_store_132 : decode prog_1_method_21_code 132 = .ok (.invokevirtual 121, 3) := by decide +kernel
theorem d_W_store_135 : decode prog_1_method_21_code 135 = .ok (.iconst 0, 1) := by decide +kernel
theorem d_W_store_136 : decode prog_1_method_21_code 136 = .ok (.ireturn, 1) := by decide +kernel
def y_W_isWelcome : MethodName := ⟨"WindowCache", "isWelcome", "(LWindowCache$Way;I)Z"⟩
theorem y_W_isWelcome_ok : y_W_isWelcome.cls ≠ "java/lang/invoke/MethodHandle" ∧ y_W_isWelcome.cls ≠ "java/lang/invoke/VarHandle" ∧ (parseMethodDescriptor y_W_isWelcome.desc).map (fun d => d.parameters.length) = some 2 := by decide +kernel
def rm_W_isWelcome : Room := { frames := 2, cells := 0, slots := 0, locals := 42 }
theorem d_W_isWelcome_0 : decode prog_1_method_20_code 0 = .ok (.aload_n 0, 1) := by decide +kernel
theorem d_W_isWelcome_1 : decode prog_1_method_20_code 1 = .ok (.getfield 11, 3) := by decide +kernel
theorem d_W_isWelcome_4 : decode prog_1_method_20_code 4 = .ok (.iload_n 2, 1) := by decide +kernel
theorem d_W_isWelcome_5 : decode prog_1_method_20_code 5 = .ok (.aaload, 1) := by decide +kernel
theorem d_W_isWelcome_6 : decode prog_1_method_20_code 6 = .ok (.astore_n 3, 1) := by decide +kernel
theorem d_W_isWelcome_7 : decode prog_1_method_20_code 7 = .ok (.aload_n 1, 1) := by decide +kernel
theorem d_W_isWelcome_8 : decode prog_1_method_20_code 8 = .ok (.getfield 222, 3) := by decide +kernel
theorem d_W_isWelcome_11 : decode prog_1_method_20_code 11 = .ok (.ifnonnull 17, 3) := by decide +kernel
theorem d_W_isWelcome_14 : decode prog_1_method_20_code 14 = .ok (.aload_n 0, 1) := by decide +kernel
theorem d_W_isWelcome_15 : decode prog_1_method_20_code 15 = .ok (.aload_n 3, 1) := by decide +kernel
theorem d_W_isWelcome_16 : decode prog_1_method_20_code 16 = .ok (.invokevirtual 98, 3) := by decide +kernel
theorem d_W_isWelcome_19 : decode prog_1_method_20_code 19 = .ok (.ifCond .ne 7, 3) := by decide +kernel
theorem d_W_isWelcome_22 : decode prog_1_method_20_code 22 = .ok (.iconst 1, 1) := by decide +kernel
theorem d_W_isWelcome_23 : decode prog_1_method_20_code 23 = .ok (.goto 4, 3) := by decide +kernel
theorem d_W_isWelcome_26 : decode prog_1_method_20_code 26 = .ok (.iconst 0, 1) := by decide +kernel
theorem d_W_isWelcome_27 : decode prog_1_method_20_code 27 = .ok (.ireturn, 1) := by decide +kernel
theorem d_W_isWelcome_28 : decode prog_1_method_20_code 28 = .ok (.aload_n 3, 1) := by decide +kernel
theorem d_W_isWelcome_29 : decode prog_1_method_20_code 29 = .ok (.aload_n 1, 1) := by decide +kernel
theorem d_W_isWelcome_30 : decode prog_1_method_20_code 30 = .ok (.getfield 222, 3) := by decide +kernel
theorem d_W_isWelcome_33 : decode prog_1_method_20_code 33 = .ok (.if_acmp .ne 29, 3) := by decide +kernel
theorem d_W_isWelcome_36 : decode prog_1_method_20_code 36 = .ok (.aload_n 0, 1) := by decide +kernel
theorem d_W_isWelcome_37 : decode prog_1_method_20_code 37 = .ok (.aload_n 3, 1) := by decide +kernel
theorem d_W_isWelcome_38 : decode prog_1_method_20_code 38 = .ok (.invokevirtual 98, 3) := by decide +kernel
theorem d_W_isWelcome_41 : decode prog_1_method_20_code 41 = .ok (.ifCond .eq 21, 3) := by decide +kernel
theorem d_W_isWelcome_44 : decode prog_1_method_20_code 44 = .ok (.aload_n 1, 1) := by decide +kernel
theorem d_W_isWelcome_45 : decode prog_1_method_20_code 45 = .ok (.getfield 222, 3) := by decide +kernel
theorem d_W_isWelcome_48 : decode prog_1_method_20_code 48 = .ok (.getfield 132, 3) := by decide +kernel
theorem d_W_isWelcome_51 : decode prog_1_method_20_code 51 = .ok (.aload_n 1, 1) := by decide +kernel
theorem d_W_isWelcome_52 : decode prog_1_method_20_code 52 = .ok (.getfield 226, 3) := by decide +kernel
theorem d_W_isWelcome_55 : decode prog_1_method_20_code 55 = .ok (.if_icmp .ne 7, 3) := by decide +kernel
theorem d_W_isWelcome_58 : decode prog_1_method_20_code 58 = .ok (.iconst 1, 1) := by decide +kernel
theorem d_W_isWelcome_59 : decode prog_1_method_20_code 59 = .ok (.goto 4, 3) := by decide +kernel
theorem d_W_isWelcome_62 : decode prog_1_method_20_code 62 = .ok (.iconst 0, 1) := by decide +kernel
theorem d_W_isWelcome_63 : decode prog_1_method_20_code 63 = .ok (.ireturn, 1) := by decide +kernel
