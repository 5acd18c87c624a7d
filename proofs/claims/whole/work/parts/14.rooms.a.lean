def y_Rs_init : MethodName := ⟨"WindowCache$Rooms", "<init>", "(I)V"⟩
theorem y_Rs_init_ok : y_Rs_init.cls ≠ "java/lang/invoke/MethodHandle" ∧ y_Rs_init.cls ≠ "java/lang/invoke/VarHandle" ∧ (parseMethodDescriptor y_Rs_init.desc).map (fun d => d.parameters.length) = some 1 := by decide +kernel
def rm_Rs_init : Room := { frames := 2, cells := 3, slots := 12, locals := 44 }
theorem d_Rs_init_0 : decode prog_9_method_1_code 0 = .ok (.aload_n 0, 1) := by decide +kernel
theorem d_Rs_init_1 : decode prog_9_method_1_code 1 = .ok (.invokespecial 1, 3) := by decide +kernel
theorem d_Rs_init_4 : decode prog_9_method_1_code 4 = .ok (.aload_n 0, 1) := by decide +kernel
theorem d_Rs_init_5 : decode prog_9_method_1_code 5 = .ok (.new 7, 3) := by decide +kernel
theorem d_Rs_init_8 : decode prog_9_method_1_code 8 = .ok (.dup, 1) := by decide +kernel
theorem d_Rs_init_9 : decode prog_9_method_1_code 9 = .ok (.invokespecial 9, 3) := by decide +kernel
theorem d_Rs_init_12 : decode prog_9_method_1_code 12 = .ok (.putfield 10, 3) := by decide +kernel
theorem d_Rs_init_15 : decode prog_9_method_1_code 15 = .ok (.aload_n 0, 1) := by decide +kernel
theorem d_Rs_init_16 : decode prog_9_method_1_code 16 = .ok (.new 7, 3) := by decide +kernel
theorem d_Rs_init_19 : decode prog_9_method_1_code 19 = .ok (.dup, 1) := by decide +kernel
theorem d_Rs_init_20 : decode prog_9_method_1_code 20 = .ok (.invokespecial 9, 3) := by decide +kernel
theorem d_Rs_init_23 : decode prog_9_method_1_code 23 = .ok (.putfield 16, 3) := by decide +kernel
theorem d_Rs_init_26 : decode prog_9_method_1_code 26 = .ok (.aload_n 0, 1) := by decide +kernel
theorem d_Rs_init_27 : decode prog_9_method_1_code 27 = .ok (.new 7, 3) := by decide +kernel
theorem d_Rs_init_30 : decode prog_9_method_1_code 30 = .ok (.dup, 1) := by decide +kernel
theorem d_Rs_init_31 : decode prog_9_method_1_code 31 = .ok (.invokespecial 9, 3) := by decide +kernel
theorem d_Rs_init_34 : decode prog_9_method_1_code 34 = .ok (.putfield 19, 3) := by decide +kernel
theorem d_Rs_init_37 : decode prog_9_method_1_code 37 = .ok (.aload_n 0, 1) := by decide +kernel
theorem d_Rs_init_38 : decode prog_9_method_1_code 38 = .ok (.iload_n 1, 1) := by decide +kernel
theorem d_Rs_init_39 : decode prog_9_method_1_code 39 = .ok (.putfield 22, 3) := by decide +kernel
theorem d_Rs_init_42 : decode prog_9_method_1_code 42 = .ok (.aload_n 0, 1) := by decide +kernel
theorem d_Rs_init_43 : decode prog_9_method_1_code 43 = .ok (.iconst 1, 1) := by decide +kernel
theorem d_Rs_init_44 : decode prog_9_method_1_code 44 = .ok (.iload_n 1, 1) := by decide +kernel
theorem d_Rs_init_45 : decode prog_9_method_1_code 45 = .ok (.bipush 100, 2) := by decide +kernel
theorem d_Rs_init_47 : decode prog_9_method_1_code 47 = .ok (.idiv, 1) := by decide +kernel
theorem d_Rs_init_48 : decode prog_9_method_1_code 48 = .ok (.invokestatic 26, 3) := by decide +kernel
theorem d_Rs_init_51 : decode prog_9_method_1_code 51 = .ok (.putfield 31, 3) := by decide +kernel
theorem d_Rs_init_54 : decode prog_9_method_1_code 54 = .ok (.return_, 1) := by decide +kernel
def y_Rs_trimShielded : MethodName := ⟨"WindowCache$Rooms", "trimShielded", "()V"⟩
theorem y_Rs_trimShielded_ok : y_Rs_trimShielded.cls ≠ "java/lang/invoke/MethodHandle" ∧ y_Rs_trimShielded.cls ≠ "java/lang/invoke/VarHandle" ∧ (parseMethodDescriptor y_Rs_trimShielded.desc).map (fun d => d.parameters.length) = some 0 := by decide +kernel
def rm_Rs_trimShielded : Room := { frames := 1, cells := 0, slots := 0, locals := 21 }
theorem d_Rs_trimShielded_0 : decode prog_9_method_6_code 0 = .ok (.aload_n 0, 1) := by decide +kernel
theorem d_Rs_trimShielded_1 : decode prog_9_method_6_code 1 = .ok (.getfield 22, 3) := by decide +kernel
theorem d_Rs_trimShielded_4 : decode prog_9_method_6_code 4 = .ok (.aload_n 0, 1) := by decide +kernel
theorem d_Rs_trimShielded_5 : decode prog_9_method_6_code 5 = .ok (.getfield 31, 3) := by decide +kernel
theorem d_Rs_trimShielded_8 : decode prog_9_method_6_code 8 = .ok (.isub, 1) := by decide +kernel
theorem d_Rs_trimShielded_9 : decode prog_9_method_6_code 9 = .ok (.iconst 4, 1) := by decide +kernel
theorem d_Rs_trimShielded_10 : decode prog_9_method_6_code 10 = .ok (.imul, 1) := by decide +kernel
theorem d_Rs_trimShielded_11 : decode prog_9_method_6_code 11 = .ok (.iconst 5, 1) := by decide +kernel
theorem d_Rs_trimShielded_12 : decode prog_9_method_6_code 12 = .ok (.idiv, 1) := by decide +kernel
theorem d_Rs_trimShielded_13 : decode prog_9_method_6_code 13 = .ok (.istore_n 1, 1) := by decide +kernel
theorem d_Rs_trimShielded_14 : decode prog_9_method_6_code 14 = .ok (.aload_n 0, 1) := by decide +kernel
theorem d_Rs_trimShielded_15 : decode prog_9_method_6_code 15 = .ok (.getfield 19, 3) := by decide +kernel
theorem d_Rs_trimShielded_18 : decode prog_9_method_6_code 18 = .ok (.getfield 37, 3) := by decide +kernel
theorem d_Rs_trimShielded_21 : decode prog_9_method_6_code 21 = .ok (.istore_n 2, 1) := by decide +kernel
theorem d_Rs_trimShielded_22 : decode prog_9_method_6_code 22 = .ok (.iload_n 2, 1) := by decide +kernel
theorem d_Rs_trimShielded_23 : decode prog_9_method_6_code 23 = .ok (.ifCond .le 49, 3) := by decide +kernel
theorem d_Rs_trimShielded_26 : decode prog_9_method_6_code 26 = .ok (.aload_n 0, 1) := by decide +kernel
theorem d_Rs_trimShielded_27 : decode prog_9_method_6_code 27 = .ok (.getfield 19, 3) := by decide +kernel
theorem d_Rs_trimShielded_30 : decode prog_9_method_6_code 30 = .ok (.getfield 34, 3) := by decide +kernel
theorem d_Rs_trimShielded_33 : decode prog_9_method_6_code 33 = .ok (.iload_n 1, 1) := by decide +kernel
theorem d_Rs_trimShielded_34 : decode prog_9_method_6_code 34 = .ok (.if_icmp .le 38, 3) := by decide +kernel
theorem d_Rs_trimShielded_37 : decode prog_9_method_6_code 37 = .ok (.aload_n 0, 1) := by decide +kernel
theorem d_Rs_trimShielded_38 : decode prog_9_method_6_code 38 = .ok (.getfield 19, 3) := by decide +kernel
theorem d_Rs_trimShielded_41 : decode prog_9_method_6_code 41 = .ok (.getfield 55, 3) := by decide +kernel
theorem d_Rs_trimShielded_44 : decode prog_9_method_6_code 44 = .ok (.astore_n 3, 1) := by decide +kernel
theorem d_Rs_trimShielded_45 : decode prog_9_method_6_code 45 = .ok (.aload_n 3, 1) := by decide +kernel
theorem d_Rs_trimShielded_46 : decode prog_9_method_6_code 46 = .ok (.ifnonnull 4, 3) := by decide +kernel
theorem d_Rs_trimShielded_49 : decode prog_9_method_6_code 49 = .ok (.return_, 1) := by decide +kernel
theorem d_Rs_trimShielded_50 : decode prog_9_method_6_code 50 = .ok (.aload_n 0, 1) := by decide +kernel
theorem d_Rs_trimShielded_51 : decode prog_9_method_6_code 51 = .ok (.getfield 19, 3) := by decide +kernel
theorem d_Rs_trimShielded_54 : decode prog_9_method_6_code 54 = .ok (.aload_n 3, 1) := by decide +kernel
theorem d_Rs_trimShielded_55 : decode prog_9_method_6_code 55 = .ok (.invokevirtual 45, 3) := by decide +kernel
theorem d_Rs_trimShielded_58 : decode prog_9_method_6_code 58 = .ok (.aload_n 0, 1) := by decide +kernel
theorem d_Rs_trimShielded_59 : decode prog_9_method_6_code 59 = .ok (.getfield 16, 3) := by decide +kernel
theorem d_Rs_trimShielded_62 : decode prog_9_method_6_code 62 = .ok (.aload_n 3, 1) := by decide +kernel
theorem d_Rs_trimShielded_63 : decode prog_9_method_6_code 63 = .ok (.invokevirtual 49, 3) := by decide +kernel
theorem d_Rs_trimShielded_66 : decode prog_9_method_6_code 66 = .ok (.iinc 2 (-1), 3) := by decide +kernel
theorem d_Rs_trimShielded_69 : decode prog_9_method_6_code 69 = .ok (.goto (-47), 3) := by decide +kernel
theorem d_Rs_trimShielded_72 : decode prog_9_method_6_code 72 = .ok (.return_, 1) := by decide +kernel
def y_Rs_touch : MethodName := ⟨"WindowCache$Rooms", "touch", "(LWindowCache$Entry;)V"⟩
theorem y_Rs_touch_ok : y_Rs_touch.cls ≠ "java/lang/invoke/MethodHandle" ∧ y_Rs_touch.cls ≠ "java/lang/invoke/VarHandle" ∧ (parseMethodDescriptor y_Rs_touch.desc).map (fun d => d.parameters.length) = some 1 := by decide +kernel
def rm_Rs_touch : Room := { frames := 2, cells := 0, slots := 0, locals := 44 }
theorem d_Rs_touch_0 : decode prog_9_method_5_code 0 = .ok (.aload_n 1, 1) := by decide +kernel
theorem d_Rs_touch_1 : decode prog_9_method_5_code 1 = .ok (.getfield 40, 3) := by decide +kernel
theorem d_Rs_touch_4 : decode prog_9_method_5_code 4 = .ok (.astore_n 2, 1) := by decide +kernel
theorem d_Rs_touch_5 : decode prog_9_method_5_code 5 = .ok (.aload_n 2, 1) := by decide +kernel
theorem d_Rs_touch_6 : decode prog_9_method_5_code 6 = .ok (.ifnonnull 4, 3) := by decide +kernel
theorem d_Rs_touch_9 : decode prog_9_method_5_code 9 = .ok (.return_, 1) := by decide +kernel
theorem d_Rs_touch_10 : decode prog_9_method_5_code 10 = .ok (.aload_n 2, 1) := by decide +kernel
theorem d_Rs_touch_11 : decode prog_9_method_5_code 11 = .ok (.aload_n 1, 1) := by decide +kernel
theorem d_Rs_touch_12 : decode prog_9_method_5_code 12 = .ok (.invokevirtual 45, 3) := by decide +kernel
theorem d_Rs_touch_15 : decode prog_9_method_5_code 15 = .ok (.aload_n 2, 1) := by decide +kernel
theorem d_Rs_touch_16 : decode prog_9_method_5_code 16 = .ok (.aload_n 0, 1) := by decide +kernel
theorem d_Rs_touch_17 : decode prog_9_method_5_code 17 = .ok (.getfield 16, 3) := by decide +kernel
theorem d_Rs_touch_20 : decode prog_9_method_5_code 20 = .ok (.if_acmp .ne 10, 3) := by decide +kernel
theorem d_Rs_touch_23 : decode prog_9_method_5_code 23 = .ok (.aload_n 0, 1) := by decide +kernel
theorem d_Rs_touch_24 : decode prog_9_method_5_code 24 = .ok (.getfield 19, 3) := by decide +kernel
theorem d_Rs_touch_27 : decode prog_9_method_5_code 27 = .ok (.goto 4, 3) := by decide +kernel
theorem d_Rs_touch_30 : decode prog_9_method_5_code 30 = .ok (.aload_n 2, 1) := by decide +kernel
theorem d_Rs_touch_31 : decode prog_9_method_5_code 31 = .ok (.astore_n 3, 1) := by decide +kernel
theorem d_Rs_touch_32 : decode prog_9_method_5_code 32 = .ok (.aload_n 3, 1) := by decide +kernel
theorem d_Rs_touch_33 : decode prog_9_method_5_code 33 = .ok (.aload_n 1, 1) := by decide +kernel
theorem d_Rs_touch_34 : decode prog_9_method_5_code 34 = .ok (.invokevirtual 49, 3) := by decide +kernel
theorem d_Rs_touch_37 : decode prog_9_method_5_code 37 = .ok (.aload_n 0, 1) := by decide +kernel
theorem d_Rs_touch_38 : decode prog_9_method_5_code 38 = .ok (.invokevirtual 52, 3) := by decide +kernel
theorem d_Rs_touch_41 : decode prog_9_method_5_code 41 = .ok (.return_, 1) := by decide +kernel
def y_Rs_takeOut : MethodName := ⟨"WindowCache$Rooms", "takeOut", "(LWindowCache$Entry;)V"⟩
theorem y_Rs_takeOut_ok : y_Rs_takeOut.cls ≠ "java/lang/invoke/MethodHandle" ∧ y_Rs_takeOut.cls ≠ "java/lang/invoke/VarHandle" ∧ (parseMethodDescriptor y_Rs_takeOut.desc).map (fun d => d.parameters.length) = some 1 := by decide +kernel
def rm_Rs_takeOut : Room := { frames := 1, cells := 0, slots := 0, locals := 21 }
theorem d_Rs_takeOut_0 : decode prog_9_method_4_code 0 = .ok (.aload_n 1, 1) := by decide +kernel
theorem d_Rs_takeOut_1 : decode prog_9_method_4_code 1 = .ok (.getfield 40, 3) := by decide +kernel
theorem d_Rs_takeOut_4 : decode prog_9_method_4_code 4 = .ok (.ifnull 11, 3) := by decide +kernel
theorem d_Rs_takeOut_7 : decode prog_9_method_4_code 7 = .ok (.aload_n 1, 1) := by decide +kernel
theorem d_Rs_takeOut_8 : decode prog_9_method_4_code 8 = .ok (.getfield 40, 3) := by decide +kernel
theorem d_Rs_takeOut_11 : decode prog_9_method_4_code 11 = .ok (.aload_n 1, 1) := by decide +kernel
theorem d_Rs_takeOut_12 : decode prog_9_method_4_code 12 = .ok (.invokevirtual 45, 3) := by decide +kernel
theorem d_Rs_takeOut_15 : decode prog_9_method_4_code 15 = .ok (.return_, 1) := by decide +kernel
def y_Rs_size : MethodName := ⟨"WindowCache$Rooms", "size", "()I"⟩
theorem y_Rs_size_ok : y_Rs_size.cls ≠ "java/lang/invoke/MethodHandle" ∧ y_Rs_size.cls ≠ "java/lang/invoke/VarHandle" ∧ (parseMethodDescriptor y_Rs_size.desc).map (fun d => d.parameters.length) = some 0 := by decide +kernel
def rm_Rs_size : Room := { frames := 0, cells := 0, slots := 0, locals := 0 }
theorem d_Rs_size_0 : decode prog_9_method_3_code 0 = .ok (.aload_n 0, 1) := by decide +kernel
theorem d_Rs_size_1 : decode prog_9_method_3_code 1 = .ok (.getfield 10, 3) := by decide +kernel
theorem d_Rs_size_4 : decode prog_9_method_3_code 4 = .ok (.getfield 37, 3) := by decide +kernel
theorem d_Rs_size_7 : decode prog_9_method_3_code 7 = .ok (.aload_n 0, 1) := by decide +kernel
theorem d_Rs_size_8 : decode prog_9_method_3_code 8 = .ok (.getfield 16, 3) := by decide +kernel
theorem d_Rs_size_11 : decode prog_9_method_3_code 11 = .ok (.getfield 37, 3) := by decide +kernel
theorem d_Rs_size_14 : decode prog_9_method_3_code 14 = .ok (.iadd, 1) := by decide +kernel
theorem d_Rs_size_15 : decode prog_9_method_3_code 15 = .ok (.aload_n 0, 1) := by decide +kernel
theorem d_Rs_size_16 : decode prog_9_method_3_code 16 = .ok (.getfield 19, 3) := by decide +kernel
theorem d_Rs_size_19 : decode prog_9_method_3_code 19 = .ok (.getfield 37, 3) := by decide +kernel
theorem d_Rs_size_22 : decode prog_9_method_3_code 22 = .ok (.iadd, 1) := by decide +kernel
theorem d_Rs_size_23 : decode prog_9_method_3_code 23 = .ok (.ireturn, 1) := by decide +kernel
def y_Rs_firstOver : MethodName := ⟨"WindowCache$Rooms", "firstOver", "(J)LWindowCache$Entry;"⟩
theorem y_Rs_firstOver_ok : y_Rs_firstOver.cls ≠ "java/lang/invoke/MethodHandle" ∧ y_Rs_firstOver.cls ≠ "java/lang/invoke/VarHandle" ∧ (parseMethodDescriptor y_Rs_firstOver.desc).map (fun d => d.parameters.length) = some 1 := by decide +kernel
def rm_Rs_firstOver : Room := { frames := 2, cells := 0, slots := 0, locals := 46 }
theorem d_Rs_firstOver_0 : decode prog_9_method_12_code 0 = .ok (.aload_n 0, 1) := by decide +kernel
theorem d_Rs_firstOver_1 : decode prog_9_method_12_code 1 = .ok (.getfield 10, 3) := by decide +kernel
theorem d_Rs_firstOver_4 : decode prog_9_method_12_code 4 = .ok (.lload_n 1, 1) := by decide +kernel
theorem d_Rs_firstOver_5 : decode prog_9_method_12_code 5 = .ok (.aconst_null, 1) := by decide +kernel
theorem d_Rs_firstOver_6 : decode prog_9_method_12_code 6 = .ok (.invokevirtual 67, 3) := by decide +kernel
theorem d_Rs_firstOver_9 : decode prog_9_method_12_code 9 = .ok (.astore_n 3, 1) := by decide +kernel
theorem d_Rs_firstOver_10 : decode prog_9_method_12_code 10 = .ok (.aload_n 0, 1) := by decide +kernel
theorem d_Rs_firstOver_11 : decode prog_9_method_12_code 11 = .ok (.getfield 16, 3) := by decide +kernel
theorem d_Rs_firstOver_14 : decode prog_9_method_12_code 14 = .ok (.lload_n 1, 1) := by decide +kernel
theorem d_Rs_firstOver_15 : decode prog_9_method_12_code 15 = .ok (.aload_n 3, 1) := by decide +kernel
theorem d_Rs_firstOver_16 : decode prog_9_method_12_code 16 = .ok (.invokevirtual 67, 3) := by decide +kernel
theorem d_Rs_firstOver_19 : decode prog_9_method_12_code 19 = .ok (.astore_n 3, 1) := by decide +kernel
theorem d_Rs_firstOver_20 : decode prog_9_method_12_code 20 = .ok (.aload_n 0, 1) := by decide +kernel
theorem d_Rs_firstOver_21 : decode prog_9_method_12_code 21 = .ok (.getfield 19, 3) := by decide +kernel
theorem d_Rs_firstOver_24 : decode prog_9_method_12_code 24 = .ok (.lload_n 1, 1) := by decide +kernel
theorem d_Rs_firstOver_25 : decode prog_9_method_12_code 25 = .ok (.aload_n 3, 1) := by decide +kernel
theorem d_Rs_firstOver_26 : decode prog_9_method_12_code 26 = .ok (.invokevirtual 67, 3) := by decide +kernel
theorem d_Rs_firstOver_29 : decode prog_9_method_12_code 29 = .ok (.areturn, 1) := by decide +kernel
def y_Rs_moveEarliest : MethodName := ⟨"WindowCache$Rooms", "moveEarliest", "(LWindowCache$Room;LWindowCache$Room;)V"⟩
theorem y_Rs_moveEarliest_ok : y_Rs_moveEarliest.cls ≠ "java/lang/invoke/MethodHandle" ∧ y_Rs_moveEarliest.cls ≠ "java/lang/invoke/VarHandle" ∧ (parseMethodDescriptor y_Rs_moveEarliest.desc).map (fun d => d.parameters.length) = some 2 := by decide +kernel
def rm_Rs_moveEarliest : Room := { frames := 1, cells := 0, slots := 0, locals := 21 }
theorem d_Rs_moveEarliest_0 : decode prog_9_method_9_code 0 = .ok (.aload_n 1, 1) := by decide +kernel
theorem d_Rs_moveEarliest_1 : decode prog_9_method_9_code 1 = .ok (.getfield 55, 3) := by decide +kernel
theorem d_Rs_moveEarliest_4 : decode prog_9_method_9_code 4 = .ok (.astore_n 3, 1) := by decide +kernel
theorem d_Rs_moveEarliest_5 : decode prog_9_method_9_code 5 = .ok (.aload_n 3, 1) := by decide +kernel
theorem d_Rs_moveEarliest_6 : decode prog_9_method_9_code 6 = .ok (.ifnull 13, 3) := by decide +kernel
theorem d_Rs_moveEarliest_9 : decode prog_9_method_9_code 9 = .ok (.aload_n 1, 1) := by decide +kernel
theorem d_Rs_moveEarliest_10 : decode prog_9_method_9_code 10 = .ok (.aload_n 3, 1) := by decide +kernel
theorem d_Rs_moveEarliest_11 : decode prog_9_method_9_code 11 = .ok (.invokevirtual 45, 3) := by decide +kernel
theorem d_Rs_moveEarliest_14 : decode prog_9_method_9_code 14 = .ok (.aload_n 2, 1) := by decide +kernel
theorem d_Rs_moveEarliest_15 : decode prog_9_method_9_code 15 = .ok (.aload_n 3, 1) := by decide +kernel
theorem d_Rs_moveEarliest_16 : decode prog_9_method_9_code 16 = .ok (.invokevirtual 49, 3) := by decide +kernel
theorem d_Rs_moveEarliest_19 : decode prog_9_method_9_code 19 = .ok (.return_, 1) := by decide +kernel
def y_Rs_spillWindow : MethodName := ⟨"WindowCache$Rooms", "spillWindow", "()LWindowCache$Entry;"⟩
theorem y_Rs_spillWindow_ok : y_Rs_spillWindow.cls ≠ "java/lang/invoke/MethodHandle" ∧ y_Rs_spillWindow.cls ≠ "java/lang/invoke/VarHandle" ∧ (parseMethodDescriptor y_Rs_spillWindow.desc).map (fun d => d.parameters.length) = some 0 := by decide +kernel
def rm_Rs_spillWindow : Room := { frames := 2, cells := 0, slots := 0, locals := 44 }
theorem d_Rs_spillWindow_0 : decode prog_9_method_7_code 0 = .ok (.aload_n 0, 1) := by decide +kernel
theorem d_Rs_spillWindow_1 : decode prog_9_method_7_code 1 = .ok (.getfield 10, 3) := by decide +kernel
theorem d_Rs_spillWindow_4 : decode prog_9_method_7_code 4 = .ok (.getfield 34, 3) := by decide +kernel
theorem d_Rs_spillWindow_7 : decode prog_9_method_7_code 7 = .ok (.aload_n 0, 1) := by decide +kernel
theorem d_Rs_spillWindow_8 : decode prog_9_method_7_code 8 = .ok (.getfield 31, 3) := by decide +kernel
theorem d_Rs_spillWindow_11 : decode prog_9_method_7_code 11 = .ok (.if_icmp .le 13, 3) := by decide +kernel
theorem d_Rs_spillWindow_14 : decode prog_9_method_7_code 14 = .ok (.aload_n 0, 1) := by decide +kernel
theorem d_Rs_spillWindow_15 : decode prog_9_method_7_code 15 = .ok (.getfield 10, 3) := by decide +kernel
theorem d_Rs_spillWindow_18 : decode prog_9_method_7_code 18 = .ok (.getfield 55, 3) := by decide +kernel
theorem d_Rs_spillWindow_21 : decode prog_9_method_7_code 21 = .ok (.goto 4, 3) := by decide +kernel
theorem d_Rs_spillWindow_24 : decode prog_9_method_7_code 24 = .ok (.aconst_null, 1) := by decide +kernel
theorem d_Rs_spillWindow_25 : decode prog_9_method_7_code 25 = .ok (.astore_n 1, 1) := by decide +kernel
theorem d_Rs_spillWindow_26 : decode prog_9_method_7_code 26 = .ok (.aload_n 0, 1) := by decide +kernel
theorem d_Rs_spillWindow_27 : decode prog_9_method_7_code 27 = .ok (.getfield 10, 3) := by decide +kernel
theorem d_Rs_spillWindow_30 : decode prog_9_method_7_code 30 = .ok (.getfield 37, 3) := by decide +kernel
theorem d_Rs_spillWindow_33 : decode prog_9_method_7_code 33 = .ok (.istore_n 2, 1) := by decide +kernel
theorem d_Rs_spillWindow_34 : decode prog_9_method_7_code 34 = .ok (.iload_n 2, 1) := by decide +kernel
theorem d_Rs_spillWindow_35 : decode prog_9_method_7_code 35 = .ok (.ifCond .le 35, 3) := by decide +kernel
theorem d_Rs_spillWindow_38 : decode prog_9_method_7_code 38 = .ok (.aload_n 0, 1) := by decide +kernel
theorem d_Rs_spillWindow_39 : decode prog_9_method_7_code 39 = .ok (.getfield 10, 3) := by decide +kernel
theorem d_Rs_spillWindow_42 : decode prog_9_method_7_code 42 = .ok (.getfield 34, 3) := by decide +kernel
theorem d_Rs_spillWindow_45 : decode prog_9_method_7_code 45 = .ok (.aload_n 0, 1) := by decide +kernel
theorem d_Rs_spillWindow_46 : decode prog_9_method_7_code 46 = .ok (.getfield 31, 3) := by decide +kernel
theorem d_Rs_spillWindow_49 : decode prog_9_method_7_code 49 = .ok (.if_icmp .le 21, 3) := by decide +kernel
theorem d_Rs_spillWindow_52 : decode prog_9_method_7_code 52 = .ok (.aload_n 0, 1) := by decide +kernel
theorem d_Rs_spillWindow_53 : decode prog_9_method_7_code 53 = .ok (.aload_n 0, 1) := by decide +kernel
theorem d_Rs_spillWindow_54 : decode prog_9_method_7_code 54 = .ok (.getfield 10, 3) := by decide +kernel
theorem d_Rs_spillWindow_57 : decode prog_9_method_7_code 57 = .ok (.aload_n 0, 1) := by decide +kernel
theorem d_Rs_spillWindow_58 : decode prog_9_method_7_code 58 = .ok (.getfield 16, 3) := by decide +kernel
theorem d_Rs_spillWindow_61 : decode prog_9_method_7_code 61 = .ok (.invokevirtual 59, 3) := by decide +kernel
theorem d_Rs_spillWindow_64 : decode prog_9_method_7_code 64 = .ok (.iinc 2 (-1), 3) := by decide +kernel
theorem d_Rs_spillWindow_67 : decode prog_9_method_7_code 67 = .ok (.goto (-33), 3) := by decide +kernel
theorem d_Rs_spillWindow_70 : decode prog_9_method_7_code 70 = .ok (.aload_n 1, 1) := by decide +kernel
theorem d_Rs_spillWindow_71 : decode prog_9_method_7_code 71 = .ok (.areturn, 1) := by decide +kernel
def y_Rs_weight : MethodName := ⟨"WindowCache$Rooms", "weight", "()I"⟩
theorem y_Rs_weight_ok : y_Rs_weight.cls ≠ "java/lang/invoke/MethodHandle" ∧ y_Rs_weight.cls ≠ "java/lang/invoke/VarHandle" ∧ (parseMethodDescriptor y_Rs_weight.desc).map (fun d => d.parameters.length) = some 0 := by decide +kernel
def rm_Rs_weight : Room := { frames := 0, cells := 0, slots := 0, locals := 0 }
theorem d_Rs_weight_0 : decode prog_9_method_2_code 0 = .ok (.aload_n 0, 1) := by decide +kernel
theorem d_Rs_weight_1 : decode prog_9_method_2_code 1 = .ok (.getfield 10, 3) := by decide +kernel
theorem d_Rs_weight_4 : decode prog_9_method_2_code 4 = .ok (.getfield 34, 3) := by decide +kernel
theorem d_Rs_weight_7 : decode prog_9_method_2_code 7 = .ok (.aload_n 0, 1) := by decide +kernel
theorem d_Rs_weight_8 : decode prog_9_method_2_code 8 = .ok (.getfield 16, 3) := by decide +kernel
theorem d_Rs_weight_11 : decode prog_9_method_2_code 11 = .ok (.getfield 34, 3) := by decide +kernel
theorem d_Rs_weight_14 : decode prog_9_method_2_code 14 = .ok (.iadd, 1) := by decide +kernel
theorem d_Rs_weight_15 : decode prog_9_method_2_code 15 = .ok (.aload_n 0, 1) := by decide +kernel
theorem d_Rs_weight_16 : decode prog_9_method_2_code 16 = .ok (.getfield 19, 3) := by decide +kernel
theorem d_Rs_weight_19 : decode prog_9_method_2_code 19 = .ok (.getfield 34, 3) := by decide +kernel
theorem d_Rs_weight_22 : decode prog_9_method_2_code 22 = .ok (.iadd, 1) := by decide +kernel
theorem d_Rs_weight_23 : decode prog_9_method_2_code 23 = .ok (.ireturn, 1) := by decide +kernel
def y_Rs_victim : MethodName := ⟨"WindowCache$Rooms", "victim", "()LWindowCache$Entry;"⟩
theorem y_Rs_victim_ok : y_Rs_victim.cls ≠ "java/lang/invoke/MethodHandle" ∧ y_Rs_victim.cls ≠ "java/lang/invoke/VarHandle" ∧ (parseMethodDescriptor y_Rs_victim.desc).map (fun d => d.parameters.length) = some 0 := by decide +kernel
def rm_Rs_victim : Room := { frames := 0, cells := 0, slots := 0, locals := 0 }
theorem d_Rs_victim_0 : decode prog_9_method_11_code 0 = .ok (.aload_n 0, 1) := by decide +kernel
theorem d_Rs_victim_1 : decode prog_9_method_11_code 1 = .ok (.getfield 16, 3) := by decide +kernel
theorem d_Rs_victim_4 : decode prog_9_method_11_code 4 = .ok (.getfield 55, 3) := by decide +kernel
theorem d_Rs_victim_7 : decode prog_9_method_11_code 7 = .ok (.ifnull 11, 3) := by decide +kernel
theorem d_Rs_victim_10 : decode prog_9_method_11_code 10 = .ok (.aload_n 0, 1) := by decide +kernel
theorem d_Rs_victim_11 : decode prog_9_method_11_code 11 = .ok (.getfield 16, 3) := by decide +kernel
theorem d_Rs_victim_14 : decode prog_9_method_11_code 14 = .ok (.getfield 55, 3) := by decide +kernel
theorem d_Rs_victim_17 : decode prog_9_method_11_code 17 = .ok (.areturn, 1) := by decide +kernel
theorem d_Rs_victim_18 : decode prog_9_method_11_code 18 = .ok (.aload_n 0, 1) := by decide +kernel
theorem d_Rs_victim_19 : decode prog_9_method_11_code 19 = .ok (.getfield 19, 3) := by decide +kernel
theorem d_Rs_victim_22 : decode prog_9_method_11_code 22 = .ok (.getfield 55, 3) := by decide +kernel
theorem d_Rs_victim_25 : decode prog_9_method_11_code 25 = .ok (.ifnull 13, 3) := by decide +kernel
theorem d_Rs_victim_28 : decode prog_9_method_11_code 28 = .ok (.aload_n 0, 1) := by decide +kernel
theorem d_Rs_victim_29 : decode prog_9_method_11_code 29 = .ok (.getfield 19, 3) := by decide +kernel
theorem d_Rs_victim_32 : decode prog_9_method_11_code 32 = .ok (.getfield 55, 3) := by decide +kernel
theorem d_Rs_victim_35 : decode prog_9_method_11_code 35 = .ok (.goto 10, 3) := by decide +kernel
theorem d_Rs_victim_38 : decode prog_9_method_11_code 38 = .ok (.aload_n 0, 1) := by decide +kernel
theorem d_Rs_victim_39 : decode prog_9_method_11_code 39 = .ok (.getfield 10, 3) := by decide +kernel
theorem d_Rs_victim_42 : decode prog_9_method_11_code 42 = .ok (.getfield 55, 3) := by decide +kernel
theorem d_Rs_victim_45 : decode prog_9_method_11_code 45 = .ok (.areturn, 1) := by decide +kernel
def y_Rs_changeWindow : MethodName := ⟨"WindowCache$Rooms", "changeWindow", "(I)V"⟩
theorem y_Rs_changeWindow_ok : y_Rs_changeWindow.cls ≠ "java/lang/invoke/MethodHandle" ∧ y_Rs_changeWindow.cls ≠ "java/lang/invoke/VarHandle" ∧ (parseMethodDescriptor y_Rs_changeWindow.desc).map (fun d => d.parameters.length) = some 1 := by decide +kernel
def rm_Rs_changeWindow : Room := { frames := 1, cells := 0, slots := 0, locals := 24 }
theorem d_Rs_changeWindow_0 : decode prog_9_method_10_code 0 = .ok (.aload_n 0, 1) := by decide +kernel
theorem d_Rs_changeWindow_1 : decode prog_9_method_10_code 1 = .ok (.iconst 1, 1) := by decide +kernel
theorem d_Rs_changeWindow_2 : decode prog_9_method_10_code 2 = .ok (.aload_n 0, 1) := by decide +kernel
theorem d_Rs_changeWindow_3 : decode prog_9_method_10_code 3 = .ok (.getfield 31, 3) := by decide +kernel
theorem d_Rs_changeWindow_6 : decode prog_9_method_10_code 6 = .ok (.iload_n 1, 1) := by decide +kernel
theorem d_Rs_changeWindow_7 : decode prog_9_method_10_code 7 = .ok (.iadd, 1) := by decide +kernel
theorem d_Rs_changeWindow_8 : decode prog_9_method_10_code 8 = .ok (.aload_n 0, 1) := by decide +kernel
theorem d_Rs_changeWindow_9 : decode prog_9_method_10_code 9 = .ok (.getfield 22, 3) := by decide +kernel
theorem d_Rs_changeWindow_12 : decode prog_9_method_10_code 12 = .ok (.iconst 1, 1) := by decide +kernel
theorem d_Rs_changeWindow_13 : decode prog_9_method_10_code 13 = .ok (.isub, 1) := by decide +kernel
theorem d_Rs_changeWindow_14 : decode prog_9_method_10_code 14 = .ok (.invokestatic 64, 3) := by decide +kernel
theorem d_Rs_changeWindow_17 : decode prog_9_method_10_code 17 = .ok (.invokestatic 26, 3) := by decide +kernel
theorem d_Rs_changeWindow_20 : decode prog_9_method_10_code 20 = .ok (.putfield 31, 3) := by decide +kernel
theorem d_Rs_changeWindow_23 : decode prog_9_method_10_code 23 = .ok (.return_, 1) := by decide +kernel
def y_Rs_fillWindow : MethodName := ⟨"WindowCache$Rooms", "fillWindow", "()V"⟩
theorem y_Rs_fillWindow_ok : y_Rs_fillWindow.cls ≠ "java/lang/invoke/MethodHandle" ∧ y_Rs_fillWindow.cls ≠ "java/lang/invoke/VarHandle" ∧ (parseMethodDescriptor y_Rs_fillWindow.desc).map (fun d => d.parameters.length) = some 0 := by decide +kernel
def rm_Rs_fillWindow : Room := { frames := 2, cells := 0, slots := 0, locals := 44 }
theorem d_Rs_fillWindow_0 : decode prog_9_method_8_code 0 = .ok (.aload_n 0, 1) := by decide +kernel
theorem d_Rs_fillWindow_1 : decode prog_9_method_8_code 1 = .ok (.getfield 16, 3) := by decide +kernel
theorem d_Rs_fillWindow_4 : decode prog_9_method_8_code 4 = .ok (.getfield 37, 3) := by decide +kernel
theorem d_Rs_fillWindow_7 : decode prog_9_method_8_code 7 = .ok (.aload_n 0, 1) := by decide +kernel
theorem d_Rs_fillWindow_8 : decode prog_9_method_8_code 8 = .ok (.getfield 19, 3) := by decide +kernel
theorem d_Rs_fillWindow_11 : decode prog_9_method_8_code 11 = .ok (.getfield 37, 3) := by decide +kernel
theorem d_Rs_fillWindow_14 : decode prog_9_method_8_code 14 = .ok (.iadd, 1) := by decide +kernel
theorem d_Rs_fillWindow_15 : decode prog_9_method_8_code 15 = .ok (.istore_n 1, 1) := by decide +kernel
theorem d_Rs_fillWindow_16 : decode prog_9_method_8_code 16 = .ok (.iload_n 1, 1) := by decide +kernel
theorem d_Rs_fillWindow_17 : decode prog_9_method_8_code 17 = .ok (.ifCond .le 70, 3) := by decide +kernel
theorem d_Rs_fillWindow_20 : decode prog_9_method_8_code 20 = .ok (.aload_n 0, 1) := by decide +kernel
theorem d_Rs_fillWindow_21 : decode prog_9_method_8_code 21 = .ok (.getfield 16, 3) := by decide +kernel
theorem d_Rs_fillWindow_24 : decode prog_9_method_8_code 24 = .ok (.getfield 55, 3) := by decide +kernel
theorem d_Rs_fillWindow_27 : decode prog_9_method_8_code 27 = .ok (.ifnull 10, 3) := by decide +kernel
theorem d_Rs_fillWindow_30 : decode prog_9_method_8_code 30 = .ok (.aload_n 0, 1) := by decide +kernel
theorem d_Rs_fillWindow_31 : decode prog_9_method_8_code 31 = .ok (.getfield 16, 3) := by decide +kernel
theorem d_Rs_fillWindow_34 : decode prog_9_method_8_code 34 = .ok (.goto 7, 3) := by decide +kernel
theorem d_Rs_fillWindow_37 : decode prog_9_method_8_code 37 = .ok (.aload_n 0, 1) := by decide +kernel
theorem d_Rs_fillWindow_38 : decode prog_9_method_8_code 38 = .ok (.getfield 19, 3) := by decide +kernel
theorem d_Rs_fillWindow_41 : decode prog_9_method_8_code 41 = .ok (.astore_n 2, 1) := by decide +kernel
theorem d_Rs_fillWindow_42 : decode prog_9_method_8_code 42 = .ok (.aload_n 2, 1) := by decide +kernel
theorem d_Rs_fillWindow_43 : decode prog_9_method_8_code 43 = .ok (.getfield 55, 3) := by decide +kernel
theorem d_Rs_fillWindow_46 : decode prog_9_method_8_code 46 = .ok (.ifnull 25, 3) := by decide +kernel
theorem d_Rs_fillWindow_49 : decode prog_9_method_8_code 49 = .ok (.aload_n 0, 1) := by decide +kernel
theorem d_Rs_fillWindow_50 : decode prog_9_method_8_code 50 = .ok (.getfield 10, 3) := by decide +kernel
theorem d_Rs_fillWindow_53 : decode prog_9_method_8_code 53 = .ok (.getfield 34, 3) := by decide +kernel
theorem d_Rs_fillWindow_56 : decode prog_9_method_8_code 56 = .ok (.aload_n 2, 1) := by decide +kernel
theorem d_Rs_fillWindow_57 : decode prog_9_method_8_code 57 = .ok (.getfield 55, 3) := by decide +kernel
theorem d_Rs_fillWindow_60 : decode prog_9_method_8_code 60 = .ok (.getfield 63, 3) := by decide +kernel
theorem d_Rs_fillWindow_63 : decode prog_9_method_8_code 63 = .ok (.iadd, 1) := by decide +kernel
theorem d_Rs_fillWindow_64 : decode prog_9_method_8_code 64 = .ok (.aload_n 0, 1) := by decide +kernel
theorem d_Rs_fillWindow_65 : decode prog_9_method_8_code 65 = .ok (.getfield 31, 3) := by decide +kernel
theorem d_Rs_fillWindow_68 : decode prog_9_method_8_code 68 = .ok (.if_icmp .le 4, 3) := by decide +kernel
theorem d_Rs_fillWindow_71 : decode prog_9_method_8_code 71 = .ok (.return_, 1) := by decide +kernel
theorem d_Rs_fillWindow_72 : decode prog_9_method_8_code 72 = .ok (.aload_n 0, 1) := by decide +kernel
theorem d_Rs_fillWindow_73 : decode prog_9_method_8_code 73 = .ok (.aload_n 2, 1) := by decide +kernel
theorem d_Rs_fillWindow_74 : decode prog_9_method_8_code 74 = .ok (.aload_n 0, 1) := by decide +kernel
theorem d_Rs_fillWindow_75 : decode prog_9_method_8_code 75 = .ok (.getfield 10, 3) := by decide +kernel
theorem d_Rs_fillWindow_78 : decode prog_9_method_8_code 78 = .ok (.invokevirtual 59, 3) := by decide +kernel
theorem d_Rs_fillWindow_81 : decode prog_9_method_8_code 81 = .ok (.iinc 1 (-1), 3) := by decide +kernel
theorem d_Rs_fillWindow_84 : decode prog_9_method_8_code 84 = .ok (.goto (-68), 3) := by decide +kernel
theorem d_Rs_fillWindow_87 : decode prog_9_method_8_code 87 = .ok (.return_, 1) := by decide +kernel
