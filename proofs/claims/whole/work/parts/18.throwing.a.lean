def y_W_put : MethodName := ⟨"WindowCache", "put", "(IIII)Z"⟩
theorem y_W_put_ok : y_W_put.cls ≠ "java/lang/invoke/MethodHandle" ∧ y_W_put.cls ≠ "java/lang/invoke/VarHandle" ∧ (parseMethodDescriptor y_W_put.desc).map (fun d => d.parameters.length) = some 4 := by decide +kernel
def rm_W_put : Room := { frames := 6, cells := 1, slots := 11, locals := 142 }
theorem d_W_put_0 : decode prog_1_method_4_code 0 = .ok (.iload_n 1, 1) := by decide +kernel
theorem d_W_put_1 : decode prog_1_method_4_code 1 = .ok (.invokestatic 90, 3) := by decide +kernel
theorem d_W_put_4 : decode prog_1_method_4_code 4 = .ok (.ifCond .eq 16, 3) := by decide +kernel
theorem d_W_put_7 : decode prog_1_method_4_code 7 = .ok (.iload_n 2, 1) := by decide +kernel
theorem d_W_put_8 : decode prog_1_method_4_code 8 = .ok (.iload_n 3, 1) := by decide +kernel
theorem d_W_put_9 : decode prog_1_method_4_code 9 = .ok (.invokestatic 102, 3) := by decide +kernel
theorem d_W_put_12 : decode prog_1_method_4_code 12 = .ok (.ifCond .eq 8, 3) := by decide +kernel
theorem d_W_put_15 : decode prog_1_method_4_code 15 = .ok (.iload 4, 2) := by decide +kernel
theorem d_W_put_17 : decode prog_1_method_4_code 17 = .ok (.ifCond .ge 11, 3) := by decide +kernel
theorem d_W_put_20 : decode prog_1_method_4_code 20 = .ok (.new 106, 3) := by decide +kernel
theorem d_W_put_23 : decode prog_1_method_4_code 23 = .ok (.dup, 1) := by decide +kernel
theorem d_W_put_24 : decode prog_1_method_4_code 24 = .ok (.invokespecial 108, 3) := by decide +kernel
theorem d_W_put_27 : decode prog_1_method_4_code 27 = .ok (.athrow, 1) := by decide +kernel
theorem d_W_put_28 : decode prog_1_method_4_code 28 = .ok (.aload_n 0, 1) := by decide +kernel
theorem d_W_put_29 : decode prog_1_method_4_code 29 = .ok (.iload_n 1, 1) := by decide +kernel
theorem d_W_put_30 : decode prog_1_method_4_code 30 = .ok (.iload_n 2, 1) := by decide +kernel
theorem d_W_put_31 : decode prog_1_method_4_code 31 = .ok (.iload_n 3, 1) := by decide +kernel
theorem d_W_put_32 : decode prog_1_method_4_code 32 = .ok (.iload 4, 2) := by decide +kernel
theorem d_W_put_34 : decode prog_1_method_4_code 34 = .ok (.invokevirtual 109, 3) := by decide +kernel
theorem d_W_put_37 : decode prog_1_method_4_code 37 = .ok (.ireturn, 1) := by decide +kernel
def y_W_load : MethodName := ⟨"WindowCache", "load", "(I)I"⟩
theorem y_W_load_ok : y_W_load.cls ≠ "java/lang/invoke/MethodHandle" ∧ y_W_load.cls ≠ "java/lang/invoke/VarHandle" ∧ (parseMethodDescriptor y_W_load.desc).map (fun d => d.parameters.length) = some 1 := by decide +kernel
def rm_W_load : Room := { frames := 6, cells := 1, slots := 6, locals := 82 }
theorem d_W_load_0 : decode prog_1_method_6_code 0 = .ok (.iload_n 1, 1) := by decide +kernel
theorem d_W_load_1 : decode prog_1_method_6_code 1 = .ok (.invokestatic 90, 3) := by decide +kernel
theorem d_W_load_4 : decode prog_1_method_6_code 4 = .ok (.ifCond .ne 11, 3) := by decide +kernel
theorem d_W_load_7 : decode prog_1_method_6_code 7 = .ok (.new 106, 3) := by decide +kernel
theorem d_W_load_10 : decode prog_1_method_6_code 10 = .ok (.dup, 1) := by decide +kernel
theorem d_W_load_11 : decode prog_1_method_6_code 11 = .ok (.invokespecial 108, 3) := by decide +kernel
theorem d_W_load_14 : decode prog_1_method_6_code 14 = .ok (.athrow, 1) := by decide +kernel
theorem d_W_load_15 : decode prog_1_method_6_code 15 = .ok (.aload_n 0, 1) := by decide +kernel
theorem d_W_load_16 : decode prog_1_method_6_code 16 = .ok (.iload_n 1, 1) := by decide +kernel
theorem d_W_load_17 : decode prog_1_method_6_code 17 = .ok (.invokevirtual 94, 3) := by decide +kernel
theorem d_W_load_20 : decode prog_1_method_6_code 20 = .ok (.istore_n 2, 1) := by decide +kernel
theorem d_W_load_21 : decode prog_1_method_6_code 21 = .ok (.iload_n 2, 1) := by decide +kernel
theorem d_W_load_22 : decode prog_1_method_6_code 22 = .ok (.iconst (-1), 1) := by decide +kernel
theorem d_W_load_23 : decode prog_1_method_6_code 23 = .ok (.if_icmp .eq 5, 3) := by decide +kernel
theorem d_W_load_26 : decode prog_1_method_6_code 26 = .ok (.iload_n 2, 1) := by decide +kernel
theorem d_W_load_27 : decode prog_1_method_6_code 27 = .ok (.ireturn, 1) := by decide +kernel
theorem d_W_load_28 : decode prog_1_method_6_code 28 = .ok (.aload_n 0, 1) := by decide +kernel
theorem d_W_load_29 : decode prog_1_method_6_code 29 = .ok (.getfield 17, 3) := by decide +kernel
theorem d_W_load_32 : decode prog_1_method_6_code 32 = .ok (.iload_n 1, 1) := by decide +kernel
theorem d_W_load_33 : decode prog_1_method_6_code 33 = .ok (.aaload, 1) := by decide +kernel
theorem d_W_load_34 : decode prog_1_method_6_code 34 = .ok (.ifnull 11, 3) := by decide +kernel
theorem d_W_load_37 : decode prog_1_method_6_code 37 = .ok (.new 127, 3) := by decide +kernel
theorem d_W_load_40 : decode prog_1_method_6_code 40 = .ok (.dup, 1) := by decide +kernel
theorem d_W_load_41 : decode prog_1_method_6_code 41 = .ok (.invokespecial 129, 3) := by decide +kernel
theorem d_W_load_44 : decode prog_1_method_6_code 44 = .ok (.athrow, 1) := by decide +kernel
theorem d_W_load_45 : decode prog_1_method_6_code 45 = .ok (.aload_n 0, 1) := by decide +kernel
theorem d_W_load_46 : decode prog_1_method_6_code 46 = .ok (.getfield 17, 3) := by decide +kernel
theorem d_W_load_49 : decode prog_1_method_6_code 49 = .ok (.iload_n 1, 1) := by decide +kernel
theorem d_W_load_50 : decode prog_1_method_6_code 50 = .ok (.new 15, 3) := by decide +kernel
theorem d_W_load_53 : decode prog_1_method_6_code 53 = .ok (.dup, 1) := by decide +kernel
theorem d_W_load_54 : decode prog_1_method_6_code 54 = .ok (.aconst_null, 1) := by decide +kernel
theorem d_W_load_55 : decode prog_1_method_6_code 55 = .ok (.iconst 0, 1) := by decide +kernel
theorem d_W_load_56 : decode prog_1_method_6_code 56 = .ok (.invokespecial 130, 3) := by decide +kernel
theorem d_W_load_59 : decode prog_1_method_6_code 59 = .ok (.aastore, 1) := by decide +kernel
theorem d_W_load_60 : decode prog_1_method_6_code 60 = .ok (.bipush (-2), 2) := by decide +kernel
theorem d_W_load_62 : decode prog_1_method_6_code 62 = .ok (.ireturn, 1) := by decide +kernel
def y_W_finish : MethodName := ⟨"WindowCache", "finish", "(III)Z"⟩
theorem y_W_finish_ok : y_W_finish.cls ≠ "java/lang/invoke/MethodHandle" ∧ y_W_finish.cls ≠ "java/lang/invoke/VarHandle" ∧ (parseMethodDescriptor y_W_finish.desc).map (fun d => d.parameters.length) = some 3 := by decide +kernel
def rm_W_finish : Room := { frames := 6, cells := 1, slots := 11, locals := 142 }
theorem d_W_finish_0 : decode prog_1_method_8_code 0 = .ok (.iload_n 1, 1) := by decide +kernel
theorem d_W_finish_1 : decode prog_1_method_8_code 1 = .ok (.invokestatic 90, 3) := by decide +kernel
theorem d_W_finish_4 : decode prog_1_method_8_code 4 = .ok (.ifCond .eq 12, 3) := by decide +kernel
theorem d_W_finish_7 : decode prog_1_method_8_code 7 = .ok (.aload_n 0, 1) := by decide +kernel
theorem d_W_finish_8 : decode prog_1_method_8_code 8 = .ok (.getfield 17, 3) := by decide +kernel
theorem d_W_finish_11 : decode prog_1_method_8_code 11 = .ok (.iload_n 1, 1) := by decide +kernel
theorem d_W_finish_12 : decode prog_1_method_8_code 12 = .ok (.aaload, 1) := by decide +kernel
theorem d_W_finish_13 : decode prog_1_method_8_code 13 = .ok (.goto 4, 3) := by decide +kernel
theorem d_W_finish_16 : decode prog_1_method_8_code 16 = .ok (.aconst_null, 1) := by decide +kernel
theorem d_W_finish_17 : decode prog_1_method_8_code 17 = .ok (.astore 4, 2) := by decide +kernel
theorem d_W_finish_19 : decode prog_1_method_8_code 19 = .ok (.aload 4, 2) := by decide +kernel
theorem d_W_finish_21 : decode prog_1_method_8_code 21 = .ok (.ifnonnull 11, 3) := by decide +kernel
theorem d_W_finish_24 : decode prog_1_method_8_code 24 = .ok (.new 127, 3) := by decide +kernel
theorem d_W_finish_27 : decode prog_1_method_8_code 27 = .ok (.dup, 1) := by decide +kernel
theorem d_W_finish_28 : decode prog_1_method_8_code 28 = .ok (.invokespecial 129, 3) := by decide +kernel
theorem d_W_finish_31 : decode prog_1_method_8_code 31 = .ok (.athrow, 1) := by decide +kernel
theorem d_W_finish_32 : decode prog_1_method_8_code 32 = .ok (.iload_n 2, 1) := by decide +kernel
theorem d_W_finish_33 : decode prog_1_method_8_code 33 = .ok (.iload_n 3, 1) := by decide +kernel
theorem d_W_finish_34 : decode prog_1_method_8_code 34 = .ok (.invokestatic 102, 3) := by decide +kernel
theorem d_W_finish_37 : decode prog_1_method_8_code 37 = .ok (.ifCond .ne 11, 3) := by decide +kernel
theorem d_W_finish_40 : decode prog_1_method_8_code 40 = .ok (.new 106, 3) := by decide +kernel
theorem d_W_finish_43 : decode prog_1_method_8_code 43 = .ok (.dup, 1) := by decide +kernel
theorem d_W_finish_44 : decode prog_1_method_8_code 44 = .ok (.invokespecial 108, 3) := by decide +kernel
theorem d_W_finish_47 : decode prog_1_method_8_code 47 = .ok (.athrow, 1) := by decide +kernel
theorem d_W_finish_48 : decode prog_1_method_8_code 48 = .ok (.aload_n 0, 1) := by decide +kernel
theorem d_W_finish_49 : decode prog_1_method_8_code 49 = .ok (.getfield 17, 3) := by decide +kernel
theorem d_W_finish_52 : decode prog_1_method_8_code 52 = .ok (.iload_n 1, 1) := by decide +kernel
theorem d_W_finish_53 : decode prog_1_method_8_code 53 = .ok (.aconst_null, 1) := by decide +kernel
theorem d_W_finish_54 : decode prog_1_method_8_code 54 = .ok (.aastore, 1) := by decide +kernel
theorem d_W_finish_55 : decode prog_1_method_8_code 55 = .ok (.aload_n 0, 1) := by decide +kernel
theorem d_W_finish_56 : decode prog_1_method_8_code 56 = .ok (.dup, 1) := by decide +kernel
theorem d_W_finish_57 : decode prog_1_method_8_code 57 = .ok (.getfield 135, 3) := by decide +kernel
theorem d_W_finish_60 : decode prog_1_method_8_code 60 = .ok (.iconst 1, 1) := by decide +kernel
theorem d_W_finish_61 : decode prog_1_method_8_code 61 = .ok (.iadd, 1) := by decide +kernel
theorem d_W_finish_62 : decode prog_1_method_8_code 62 = .ok (.putfield 135, 3) := by decide +kernel
theorem d_W_finish_65 : decode prog_1_method_8_code 65 = .ok (.aload_n 0, 1) := by decide +kernel
theorem d_W_finish_66 : decode prog_1_method_8_code 66 = .ok (.aload 4, 2) := by decide +kernel
theorem d_W_finish_68 : decode prog_1_method_8_code 68 = .ok (.iload_n 1, 1) := by decide +kernel
theorem d_W_finish_69 : decode prog_1_method_8_code 69 = .ok (.invokevirtual 138, 3) := by decide +kernel
theorem d_W_finish_72 : decode prog_1_method_8_code 72 = .ok (.ifCond .ne 5, 3) := by decide +kernel
theorem d_W_finish_75 : decode prog_1_method_8_code 75 = .ok (.iconst 0, 1) := by decide +kernel
theorem d_W_finish_76 : decode prog_1_method_8_code 76 = .ok (.ireturn, 1) := by decide +kernel
theorem d_W_finish_77 : decode prog_1_method_8_code 77 = .ok (.aload_n 0, 1) := by decide +kernel
theorem d_W_finish_78 : decode prog_1_method_8_code 78 = .ok (.iload_n 1, 1) := by decide +kernel
theorem d_W_finish_79 : decode prog_1_method_8_code 79 = .ok (.iload_n 2, 1) := by decide +kernel
theorem d_W_finish_80 : decode prog_1_method_8_code 80 = .ok (.iload_n 3, 1) := by decide +kernel
theorem d_W_finish_81 : decode prog_1_method_8_code 81 = .ok (.iconst 0, 1) := by decide +kernel
theorem d_W_finish_82 : decode prog_1_method_8_code 82 = .ok (.invokevirtual 109, 3) := by decide +kernel
theorem d_W_finish_85 : decode prog_1_method_8_code 85 = .ok (.pop, 1) := by decide +kernel
theorem d_W_finish_86 : decode prog_1_method_8_code 86 = .ok (.iconst 1, 1) := by decide +kernel
theorem d_W_finish_87 : decode prog_1_method_8_code 87 = .ok (.ireturn, 1) := by decide +kernel
def y_W_fail : MethodName := ⟨"WindowCache", "fail", "(I)V"⟩
theorem y_W_fail_ok : y_W_fail.cls ≠ "java/lang/invoke/MethodHandle" ∧ y_W_fail.cls ≠ "java/lang/invoke/VarHandle" ∧ (parseMethodDescriptor y_W_fail.desc).map (fun d => d.parameters.length) = some 1 := by decide +kernel
def rm_W_fail : Room := { frames := 6, cells := 1, slots := 6, locals := 82 }
theorem d_W_fail_0 : decode prog_1_method_9_code 0 = .ok (.iload_n 1, 1) := by decide +kernel
theorem d_W_fail_1 : decode prog_1_method_9_code 1 = .ok (.invokestatic 90, 3) := by decide +kernel
theorem d_W_fail_4 : decode prog_1_method_9_code 4 = .ok (.ifCond .eq 12, 3) := by decide +kernel
theorem d_W_fail_7 : decode prog_1_method_9_code 7 = .ok (.aload_n 0, 1) := by decide +kernel
theorem d_W_fail_8 : decode prog_1_method_9_code 8 = .ok (.getfield 17, 3) := by decide +kernel
theorem d_W_fail_11 : decode prog_1_method_9_code 11 = .ok (.iload_n 1, 1) := by decide +kernel
theorem d_W_fail_12 : decode prog_1_method_9_code 12 = .ok (.aaload, 1) := by decide +kernel
theorem d_W_fail_13 : decode prog_1_method_9_code 13 = .ok (.ifnonnull 11, 3) := by decide +kernel
theorem d_W_fail_16 : decode prog_1_method_9_code 16 = .ok (.new 127, 3) := by decide +kernel
theorem d_W_fail_19 : decode prog_1_method_9_code 19 = .ok (.dup, 1) := by decide +kernel
theorem d_W_fail_20 : decode prog_1_method_9_code 20 = .ok (.invokespecial 129, 3) := by decide +kernel
theorem d_W_fail_23 : decode prog_1_method_9_code 23 = .ok (.athrow, 1) := by decide +kernel
theorem d_W_fail_24 : decode prog_1_method_9_code 24 = .ok (.aload_n 0, 1) := by decide +kernel
theorem d_W_fail_25 : decode prog_1_method_9_code 25 = .ok (.getfield 17, 3) := by decide +kernel
theorem d_W_fail_28 : decode prog_1_method_9_code 28 = .ok (.iload_n 1, 1) := by decide +kernel
theorem d_W_fail_29 : decode prog_1_method_9_code 29 = .ok (.aconst_null, 1) := by decide +kernel
theorem d_W_fail_30 : decode prog_1_method_9_code 30 = .ok (.aastore, 1) := by decide +kernel
theorem d_W_fail_31 : decode prog_1_method_9_code 31 = .ok (.aload_n 0, 1) := by decide +kernel
theorem d_W_fail_32 : decode prog_1_method_9_code 32 = .ok (.dup, 1) := by decide +kernel
theorem d_W_fail_33 : decode prog_1_method_9_code 33 = .ok (.getfield 142, 3) := by decide +kernel
theorem d_W_fail_36 : decode prog_1_method_9_code 36 = .ok (.iconst 1, 1) := by decide +kernel
theorem d_W_fail_37 : decode prog_1_method_9_code 37 = .ok (.iadd, 1) := by decide +kernel
theorem d_W_fail_38 : decode prog_1_method_9_code 38 = .ok (.putfield 142, 3) := by decide +kernel
theorem d_W_fail_41 : decode prog_1_method_9_code 41 = .ok (.return_, 1) := by decide +kernel
