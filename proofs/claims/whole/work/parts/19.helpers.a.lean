def hh_L_put : List (Nat × Nat × Nat × Nat) := [(0, 21, 24, 13)]
def y_L_put : MethodName := ⟨"WindowCacheLaw", "put", "(LWindowCache;IIII[J)I"⟩
theorem y_L_put_ok : y_L_put.cls ≠ "java/lang/invoke/MethodHandle" ∧ y_L_put.cls ≠ "java/lang/invoke/VarHandle" ∧ (parseMethodDescriptor y_L_put.desc).map (fun d => d.parameters.length) = some 6 := by decide +kernel
def rm_L_put : Room := { frames := 7, cells := 1, slots := 11, locals := 166 }
theorem d_L_put_0 : decode method_3_code 0 = .ok (.aload 5, 2) := by decide +kernel
theorem d_L_put_2 : decode method_3_code 2 = .ok (.iconst 0, 1) := by decide +kernel
theorem d_L_put_3 : decode method_3_code 3 = .ok (.aload_n 0, 1) := by decide +kernel
theorem d_L_put_4 : decode method_3_code 4 = .ok (.iload_n 1, 1) := by decide +kernel
theorem d_L_put_5 : decode method_3_code 5 = .ok (.iload_n 2, 1) := by decide +kernel
theorem d_L_put_6 : decode method_3_code 6 = .ok (.iload_n 3, 1) := by decide +kernel
theorem d_L_put_7 : decode method_3_code 7 = .ok (.iload 4, 2) := by decide +kernel
theorem d_L_put_9 : decode method_3_code 9 = .ok (.invokevirtual 7, 3) := by decide +kernel
theorem d_L_put_12 : decode method_3_code 12 = .ok (.ifCond .eq 7, 3) := by decide +kernel
theorem d_L_put_15 : decode method_3_code 15 = .ok (.lconst 1, 1) := by decide +kernel
theorem d_L_put_16 : decode method_3_code 16 = .ok (.goto 4, 3) := by decide +kernel
theorem d_L_put_19 : decode method_3_code 19 = .ok (.lconst 0, 1) := by decide +kernel
theorem d_L_put_20 : decode method_3_code 20 = .ok (.lastore, 1) := by decide +kernel
theorem d_L_put_21 : decode method_3_code 21 = .ok (.goto 7, 3) := by decide +kernel
theorem d_L_put_24 : decode method_3_code 24 = .ok (.astore 6, 2) := by decide +kernel
theorem d_L_put_26 : decode method_3_code 26 = .ok (.iconst 1, 1) := by decide +kernel
theorem d_L_put_27 : decode method_3_code 27 = .ok (.ireturn, 1) := by decide +kernel
theorem d_L_put_28 : decode method_3_code 28 = .ok (.iconst 0, 1) := by decide +kernel
theorem d_L_put_29 : decode method_3_code 29 = .ok (.ireturn, 1) := by decide +kernel
def hh_L_load : List (Nat × Nat × Nat × Nat) := [(0, 9, 12, 13), (0, 9, 15, 19)]
def y_L_load : MethodName := ⟨"WindowCacheLaw", "load", "(LWindowCache;I[J)I"⟩
theorem y_L_load_ok : y_L_load.cls ≠ "java/lang/invoke/MethodHandle" ∧ y_L_load.cls ≠ "java/lang/invoke/VarHandle" ∧ (parseMethodDescriptor y_L_load.desc).map (fun d => d.parameters.length) = some 3 := by decide +kernel
def rm_L_load : Room := { frames := 7, cells := 1, slots := 6, locals := 104 }
theorem d_L_load_0 : decode method_4_code 0 = .ok (.aload_n 2, 1) := by decide +kernel
theorem d_L_load_1 : decode method_4_code 1 = .ok (.iconst 0, 1) := by decide +kernel
theorem d_L_load_2 : decode method_4_code 2 = .ok (.aload_n 0, 1) := by decide +kernel
theorem d_L_load_3 : decode method_4_code 3 = .ok (.iload_n 1, 1) := by decide +kernel
theorem d_L_load_4 : decode method_4_code 4 = .ok (.invokevirtual 15, 3) := by decide +kernel
theorem d_L_load_7 : decode method_4_code 7 = .ok (.i2l, 1) := by decide +kernel
theorem d_L_load_8 : decode method_4_code 8 = .ok (.lastore, 1) := by decide +kernel
theorem d_L_load_9 : decode method_4_code 9 = .ok (.goto 9, 3) := by decide +kernel
theorem d_L_load_12 : decode method_4_code 12 = .ok (.astore_n 3, 1) := by decide +kernel
theorem d_L_load_13 : decode method_4_code 13 = .ok (.iconst 1, 1) := by decide +kernel
theorem d_L_load_14 : decode method_4_code 14 = .ok (.ireturn, 1) := by decide +kernel
theorem d_L_load_15 : decode method_4_code 15 = .ok (.astore_n 3, 1) := by decide +kernel
theorem d_L_load_16 : decode method_4_code 16 = .ok (.iconst 2, 1) := by decide +kernel
theorem d_L_load_17 : decode method_4_code 17 = .ok (.ireturn, 1) := by decide +kernel
theorem d_L_load_18 : decode method_4_code 18 = .ok (.iconst 0, 1) := by decide +kernel
theorem d_L_load_19 : decode method_4_code 19 = .ok (.ireturn, 1) := by decide +kernel
def hh_L_finish : List (Nat × Nat × Nat × Nat) := [(0, 19, 22, 19), (0, 19, 26, 13)]
def y_L_finish : MethodName := ⟨"WindowCacheLaw", "finish", "(LWindowCache;III[J)I"⟩
theorem y_L_finish_ok : y_L_finish.cls ≠ "java/lang/invoke/MethodHandle" ∧ y_L_finish.cls ≠ "java/lang/invoke/VarHandle" ∧ (parseMethodDescriptor y_L_finish.desc).map (fun d => d.parameters.length) = some 5 := by decide +kernel
def rm_L_finish : Room := { frames := 7, cells := 1, slots := 11, locals := 166 }
theorem d_L_finish_0 : decode method_5_code 0 = .ok (.aload 4, 2) := by decide +kernel
theorem d_L_finish_2 : decode method_5_code 2 = .ok (.iconst 0, 1) := by decide +kernel
theorem d_L_finish_3 : decode method_5_code 3 = .ok (.aload_n 0, 1) := by decide +kernel
theorem d_L_finish_4 : decode method_5_code 4 = .ok (.iload_n 1, 1) := by decide +kernel
theorem d_L_finish_5 : decode method_5_code 5 = .ok (.iload_n 2, 1) := by decide +kernel
theorem d_L_finish_6 : decode method_5_code 6 = .ok (.iload_n 3, 1) := by decide +kernel
theorem d_L_finish_7 : decode method_5_code 7 = .ok (.invokevirtual 21, 3) := by decide +kernel
theorem d_L_finish_10 : decode method_5_code 10 = .ok (.ifCond .eq 7, 3) := by decide +kernel
theorem d_L_finish_13 : decode method_5_code 13 = .ok (.lconst 1, 1) := by decide +kernel
theorem d_L_finish_14 : decode method_5_code 14 = .ok (.goto 4, 3) := by decide +kernel
theorem d_L_finish_17 : decode method_5_code 17 = .ok (.lconst 0, 1) := by decide +kernel
theorem d_L_finish_18 : decode method_5_code 18 = .ok (.lastore, 1) := by decide +kernel
theorem d_L_finish_19 : decode method_5_code 19 = .ok (.goto 11, 3) := by decide +kernel
theorem d_L_finish_22 : decode method_5_code 22 = .ok (.astore 5, 2) := by decide +kernel
theorem d_L_finish_24 : decode method_5_code 24 = .ok (.iconst 1, 1) := by decide +kernel
theorem d_L_finish_25 : decode method_5_code 25 = .ok (.ireturn, 1) := by decide +kernel
theorem d_L_finish_26 : decode method_5_code 26 = .ok (.astore 5, 2) := by decide +kernel
theorem d_L_finish_28 : decode method_5_code 28 = .ok (.iconst 2, 1) := by decide +kernel
theorem d_L_finish_29 : decode method_5_code 29 = .ok (.ireturn, 1) := by decide +kernel
theorem d_L_finish_30 : decode method_5_code 30 = .ok (.iconst 0, 1) := by decide +kernel
theorem d_L_finish_31 : decode method_5_code 31 = .ok (.ireturn, 1) := by decide +kernel
def hh_L_fail : List (Nat × Nat × Nat × Nat) := [(0, 5, 8, 19)]
def y_L_fail : MethodName := ⟨"WindowCacheLaw", "fail", "(LWindowCache;I)I"⟩
theorem y_L_fail_ok : y_L_fail.cls ≠ "java/lang/invoke/MethodHandle" ∧ y_L_fail.cls ≠ "java/lang/invoke/VarHandle" ∧ (parseMethodDescriptor y_L_fail.desc).map (fun d => d.parameters.length) = some 2 := by decide +kernel
def rm_L_fail : Room := { frames := 7, cells := 1, slots := 6, locals := 103 }
theorem d_L_fail_0 : decode method_6_code 0 = .ok (.aload_n 0, 1) := by decide +kernel
theorem d_L_fail_1 : decode method_6_code 1 = .ok (.iload_n 1, 1) := by decide +kernel
theorem d_L_fail_2 : decode method_6_code 2 = .ok (.invokevirtual 25, 3) := by decide +kernel
theorem d_L_fail_5 : decode method_6_code 5 = .ok (.goto 6, 3) := by decide +kernel
theorem d_L_fail_8 : decode method_6_code 8 = .ok (.astore_n 2, 1) := by decide +kernel
theorem d_L_fail_9 : decode method_6_code 9 = .ok (.iconst 1, 1) := by decide +kernel
theorem d_L_fail_10 : decode method_6_code 10 = .ok (.ireturn, 1) := by decide +kernel
theorem d_L_fail_11 : decode method_6_code 11 = .ok (.iconst 0, 1) := by decide +kernel
theorem d_L_fail_12 : decode method_6_code 12 = .ok (.ireturn, 1) := by decide +kernel
