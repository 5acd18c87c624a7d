def f_In_bitCount (v0 : Int32) (σ : Hp) : Option (Int32 × Hp) :=
  some ((((((((v0 - ((iushr_ v0 1) &&& 1431655765)) &&& 858993459) + ((iushr_ (v0 - ((iushr_ v0 1) &&& 1431655765)) 2) &&& 858993459)) + (iushr_ (((v0 - ((iushr_ v0 1) &&& 1431655765)) &&& 858993459) + ((iushr_ (v0 - ((iushr_ v0 1) &&& 1431655765)) 2) &&& 858993459)) 4)) &&& 252645135) + (iushr_ (((((v0 - ((iushr_ v0 1) &&& 1431655765)) &&& 858993459) + ((iushr_ (v0 - ((iushr_ v0 1) &&& 1431655765)) 2) &&& 858993459)) + (iushr_ (((v0 - ((iushr_ v0 1) &&& 1431655765)) &&& 858993459) + ((iushr_ (v0 - ((iushr_ v0 1) &&& 1431655765)) 2) &&& 858993459)) 4)) &&& 252645135) 8)) + (iushr_ ((((((v0 - ((iushr_ v0 1) &&& 1431655765)) &&& 858993459) + ((iushr_ (v0 - ((iushr_ v0 1) &&& 1431655765)) 2) &&& 858993459)) + (iushr_ (((v0 - ((iushr_ v0 1) &&& 1431655765)) &&& 858993459) + ((iushr_ (v0 - ((iushr_ v0 1) &&& 1431655765)) 2) &&& 858993459)) 4)) &&& 252645135) + (iushr_ (((((v0 - ((iushr_ v0 1) &&& 1431655765)) &&& 858993459) + ((iushr_ (v0 - ((iushr_ v0 1) &&& 1431655765)) 2) &&& 858993459)) + (iushr_ (((v0 - ((iushr_ v0 1) &&& 1431655765)) &&& 858993459) + ((iushr_ (v0 - ((iushr_ v0 1) &&& 1431655765)) 2) &&& 858993459)) 4)) &&& 252645135) 8)) 16)) &&& 63, σ)
set_option maxRecDepth 100000 in
theorem c_In_bitCount {l : Launch} {DD : DT} (v0 : Int32) {σ0 σz : Hp} {rz : Int32} (hf : f_In_bitCount v0 σ0 = some (rz, σz)) : CT l DD y_In_bitCount prog_17_method_49_code 1 (some .int) rm_In_bitCount [tI v0] σ0 (some (tI rz)) σz := by
  refine r_met (by decide) (Nat.le_of_ble_eq_true rfl) ?_
  intro p e s m args below meth c X hret hlk hnm
  unfold f_In_bitCount at hf
  refine r_iload_n X d_In_bitCount_0 rfl 0 rfl ?_
  refine r_iload_n X d_In_bitCount_1 rfl 0 rfl ?_
  refine r_iconst (v := 1) X d_In_bitCount_2 (by decide) ?_
  refine r_iushr X d_In_bitCount_3 ?_
  refine r_ldcw X d_In_bitCount_4 q343 ?_
  refine r_iand X d_In_bitCount_7 ?_
  refine r_isub X d_In_bitCount_8 ?_
  refine r_istore_n (lv' := [(0, tI (v0 - ((iushr_ v0 1) &&& 1431655765)))]) X [0] d_In_bitCount_9 rfl (Nat.le_of_ble_eq_true rfl) rfl ?_
  refine r_iload_n X d_In_bitCount_10 rfl 0 rfl ?_
  refine r_ldcw X d_In_bitCount_11 q344 ?_
  refine r_iand X d_In_bitCount_14 ?_
  refine r_iload_n X d_In_bitCount_15 rfl 0 rfl ?_
  refine r_iconst (v := 2) X d_In_bitCount_16 (by decide) ?_
  refine r_iushr X d_In_bitCount_17 ?_
  refine r_ldcw X d_In_bitCount_18 q344 ?_
  refine r_iand X d_In_bitCount_21 ?_
  refine r_iadd X d_In_bitCount_22 ?_
  refine r_istore_n (lv' := [(0, tI (((v0 - ((iushr_ v0 1) &&& 1431655765)) &&& 858993459) + ((iushr_ (v0 - ((iushr_ v0 1) &&& 1431655765)) 2) &&& 858993459)))]) X [0] d_In_bitCount_23 rfl (Nat.le_of_ble_eq_true rfl) rfl ?_
  refine r_iload_n X d_In_bitCount_24 rfl 0 rfl ?_
  refine r_iload_n X d_In_bitCount_25 rfl 0 rfl ?_
  refine r_iconst (v := 4) X d_In_bitCount_26 (by decide) ?_
  refine r_iushr X d_In_bitCount_27 ?_
  refine r_iadd X d_In_bitCount_28 ?_
  refine r_ldcw X d_In_bitCount_29 q345 ?_
  refine r_iand X d_In_bitCount_32 ?_
  refine r_istore_n (lv' := [(0, tI (((((v0 - ((iushr_ v0 1) &&& 1431655765)) &&& 858993459) + ((iushr_ (v0 - ((iushr_ v0 1) &&& 1431655765)) 2) &&& 858993459)) + (iushr_ (((v0 - ((iushr_ v0 1) &&& 1431655765)) &&& 858993459) + ((iushr_ (v0 - ((iushr_ v0 1) &&& 1431655765)) 2) &&& 858993459)) 4)) &&& 252645135))]) X [0] d_In_bitCount_33 rfl (Nat.le_of_ble_eq_true rfl) rfl ?_
  refine r_iload_n X d_In_bitCount_34 rfl 0 rfl ?_
  refine r_iload_n X d_In_bitCount_35 rfl 0 rfl ?_
  refine r_bipush (v := 8) X d_In_bitCount_36 (by decide) ?_
  refine r_iushr X d_In_bitCount_38 ?_
  refine r_iadd X d_In_bitCount_39 ?_
  refine r_istore_n (lv' := [(0, tI ((((((v0 - ((iushr_ v0 1) &&& 1431655765)) &&& 858993459) + ((iushr_ (v0 - ((iushr_ v0 1) &&& 1431655765)) 2) &&& 858993459)) + (iushr_ (((v0 - ((iushr_ v0 1) &&& 1431655765)) &&& 858993459) + ((iushr_ (v0 - ((iushr_ v0 1) &&& 1431655765)) 2) &&& 858993459)) 4)) &&& 252645135) + (iushr_ (((((v0 - ((iushr_ v0 1) &&& 1431655765)) &&& 858993459) + ((iushr_ (v0 - ((iushr_ v0 1) &&& 1431655765)) 2) &&& 858993459)) + (iushr_ (((v0 - ((iushr_ v0 1) &&& 1431655765)) &&& 858993459) + ((iushr_ (v0 - ((iushr_ v0 1) &&& 1431655765)) 2) &&& 858993459)) 4)) &&& 252645135) 8)))]) X [0] d_In_bitCount_40 rfl (Nat.le_of_ble_eq_true rfl) rfl ?_
  refine r_iload_n X d_In_bitCount_41 rfl 0 rfl ?_
  refine r_iload_n X d_In_bitCount_42 rfl 0 rfl ?_
  refine r_bipush (v := 16) X d_In_bitCount_43 (by decide) ?_
  refine r_iushr X d_In_bitCount_45 ?_
  refine r_iadd X d_In_bitCount_46 ?_
  refine r_istore_n (lv' := [(0, tI (((((((v0 - ((iushr_ v0 1) &&& 1431655765)) &&& 858993459) + ((iushr_ (v0 - ((iushr_ v0 1) &&& 1431655765)) 2) &&& 858993459)) + (iushr_ (((v0 - ((iushr_ v0 1) &&& 1431655765)) &&& 858993459) + ((iushr_ (v0 - ((iushr_ v0 1) &&& 1431655765)) 2) &&& 858993459)) 4)) &&& 252645135) + (iushr_ (((((v0 - ((iushr_ v0 1) &&& 1431655765)) &&& 858993459) + ((iushr_ (v0 - ((iushr_ v0 1) &&& 1431655765)) 2) &&& 858993459)) + (iushr_ (((v0 - ((iushr_ v0 1) &&& 1431655765)) &&& 858993459) + ((iushr_ (v0 - ((iushr_ v0 1) &&& 1431655765)) 2) &&& 858993459)) 4)) &&& 252645135) 8)) + (iushr_ ((((((v0 - ((iushr_ v0 1) &&& 1431655765)) &&& 858993459) + ((iushr_ (v0 - ((iushr_ v0 1) &&& 1431655765)) 2) &&& 858993459)) + (iushr_ (((v0 - ((iushr_ v0 1) &&& 1431655765)) &&& 858993459) + ((iushr_ (v0 - ((iushr_ v0 1) &&& 1431655765)) 2) &&& 858993459)) 4)) &&& 252645135) + (iushr_ (((((v0 - ((iushr_ v0 1) &&& 1431655765)) &&& 858993459) + ((iushr_ (v0 - ((iushr_ v0 1) &&& 1431655765)) 2) &&& 858993459)) + (iushr_ (((v0 - ((iushr_ v0 1) &&& 1431655765)) &&& 858993459) + ((iushr_ (v0 - ((iushr_ v0 1) &&& 1431655765)) 2) &&& 858993459)) 4)) &&& 252645135) 8)) 16)))]) X [0] d_In_bitCount_47 rfl (Nat.le_of_ble_eq_true rfl) rfl ?_
  refine r_iload_n X d_In_bitCount_48 rfl 0 rfl ?_
  refine r_bipush (v := 63) X d_In_bitCount_49 (by decide) ?_
  refine r_iand X d_In_bitCount_51 ?_
  cases hf
  refine r_widen (kc2 := rm_In_bitCount.cells) (ks2 := rm_In_bitCount.slots) (Nat.le_of_ble_eq_true rfl) (Nat.le_of_ble_eq_true rfl) ?_
  exact r_iret X hret hlk d_In_bitCount_52

