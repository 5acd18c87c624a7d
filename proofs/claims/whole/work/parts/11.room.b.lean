def f_Ro_init (v0 : Option Nat) (σ : Hp) : Option Hp :=
  Option.bind v0 fun x1 =>
  some σ
set_option maxRecDepth 100000 in
theorem c_Ro_init {l : Launch} {DD : DT} (v0 : Option Nat) {σ0 σz : Hp} (hf : f_Ro_init v0 σ0 = some σz) : CT l DD y_Ro_init prog_8_method_1_code 1 none rm_Ro_init [tR v0] σ0 none σz := by
  refine r_met (by decide) (Nat.le_of_ble_eq_true rfl) ?_
  intro p e s m args below meth c X hret hlk hnm
  unfold f_Ro_init at hf
  refine r_aload_n X d_Ro_init_0 rfl 0 rfl ?_
  obtain ⟨x1, h2, hf⟩ := obind hf
  refine r_objInit X h2 q143 q26 q27 (Nat.le_of_ble_eq_true rfl) (Nat.le_of_ble_eq_true rfl) d_Ro_init_1 ?_
  cases hf
  refine r_widen (kc2 := rm_Ro_init.cells) (ks2 := rm_Ro_init.slots) (Nat.le_of_ble_eq_true rfl) (Nat.le_of_ble_eq_true rfl) ?_
  exact r_vret X hret hlk d_Ro_init_4

def f_Ro_cutOut_58  (v0 : Option Nat) (v1 : Option Nat) (σ : Hp) : Option Hp :=
  Option.bind (st_R σ v1 3 8 none) fun σ19 =>
  Option.bind (st_R σ19 v1 3 9 none) fun σ21 =>
  Option.bind (st_R σ21 v1 3 10 none) fun σ23 =>
  Option.bind (ld_I σ23 v0 7 2) fun x25 =>
  Option.bind (ld_I σ23 v1 3 2) fun x27 =>
  Option.bind (st_I σ23 v0 7 2 (x25 - x27)) fun σ29 =>
  Option.bind (ld_I σ29 v0 7 3) fun x31 =>
  Option.bind (st_I σ29 v0 7 3 (x31 - 1)) fun σ33 =>
  some σ33
set_option maxRecDepth 100000 in
theorem b_Ro_cutOut_58 {p : Program} {l : Launch} {e : Env} {s : State} {m : MethodId} {args : Array Value} {below : List Frame} {meth : Method} {c : Code} {DD : DT} {σ0 σz : Hp} (X : CX p s m args c prog_8_method_3_code 2 (dm σ0) DD y_Ro_cutOut.cls) (hret : meth.sig.returnType = none) (hlk : meth.locks = false) (hnm : meth.name = y_Ro_cutOut.name)   (v0 : Option Nat) (v1 : Option Nat) (σ : Hp) (hf : f_Ro_cutOut_58  v0 v1 σ = some σz) : GG p l e rm_Ro_cutOut s m args below meth c 2 (dm σ0) DD (MQ below (Post DD σ0 none σz) args s rm_Ro_cutOut.cells rm_Ro_cutOut.slots (dm σ0)) 0 0 σ 58 [(0, tR v0), (1, tR v1)] [] := by
  unfold f_Ro_cutOut_58 at hf
  refine r_aload_n X d_Ro_cutOut_58 rfl 1 rfl ?_
  refine r_null X d_Ro_cutOut_59 ?_
  obtain ⟨σ19, h20, hf⟩ := obind hf
  refine r_st_R (ci := 3) (k := 8) X h20 (Nat.le_of_ble_eq_true rfl) (Nat.le_of_ble_eq_true rfl) rfl rfl rfl q619 d_Ro_cutOut_60 ?_
  refine r_aload_n X d_Ro_cutOut_63 rfl 1 rfl ?_
  refine r_null X d_Ro_cutOut_64 ?_
  obtain ⟨σ21, h22, hf⟩ := obind hf
  refine r_st_R (ci := 3) (k := 9) X h22 (Nat.le_of_ble_eq_true rfl) (Nat.le_of_ble_eq_true rfl) rfl rfl rfl q622 d_Ro_cutOut_65 ?_
  refine r_aload_n X d_Ro_cutOut_68 rfl 1 rfl ?_
  refine r_null X d_Ro_cutOut_69 ?_
  obtain ⟨σ23, h24, hf⟩ := obind hf
  refine r_st_R (ci := 3) (k := 10) X h24 (Nat.le_of_ble_eq_true rfl) (Nat.le_of_ble_eq_true rfl) rfl rfl rfl q623 d_Ro_cutOut_70 ?_
  refine r_aload_n X d_Ro_cutOut_73 rfl 0 rfl ?_
  refine r_dup X d_Ro_cutOut_74 rfl ?_
  obtain ⟨x25, h26, hf⟩ := obind hf
  refine r_ld_I (ci := 7) (k := 2) X h26 (Nat.le_of_ble_eq_true rfl) (Nat.le_of_ble_eq_true rfl) (Or.inl rfl) rfl q148 d_Ro_cutOut_75 ?_
  refine r_aload_n X d_Ro_cutOut_78 rfl 1 rfl ?_
  obtain ⟨x27, h28, hf⟩ := obind hf
  refine r_ld_I (ci := 3) (k := 2) X h28 (Nat.le_of_ble_eq_true rfl) (Nat.le_of_ble_eq_true rfl) (Or.inl rfl) rfl q610 d_Ro_cutOut_79 ?_
  refine r_isub X d_Ro_cutOut_82 ?_
  obtain ⟨σ29, h30, hf⟩ := obind hf
  refine r_st_I (ci := 7) (k := 2) X h30 (Nat.le_of_ble_eq_true rfl) (Nat.le_of_ble_eq_true rfl) rfl rfl rfl q148 d_Ro_cutOut_83 ?_
  refine r_aload_n X d_Ro_cutOut_86 rfl 0 rfl ?_
  refine r_dup X d_Ro_cutOut_87 rfl ?_
  obtain ⟨x31, h32, hf⟩ := obind hf
  refine r_ld_I (ci := 7) (k := 3) X h32 (Nat.le_of_ble_eq_true rfl) (Nat.le_of_ble_eq_true rfl) (Or.inl rfl) rfl q150 d_Ro_cutOut_88 ?_
  refine r_iconst (v := 1) X d_Ro_cutOut_91 (by decide) ?_
  refine r_isub X d_Ro_cutOut_92 ?_
  obtain ⟨σ33, h34, hf⟩ := obind hf
  refine r_st_I (ci := 7) (k := 3) X h34 (Nat.le_of_ble_eq_true rfl) (Nat.le_of_ble_eq_true rfl) rfl rfl rfl q150 d_Ro_cutOut_93 ?_
  cases hf
  refine r_widen (kc2 := rm_Ro_cutOut.cells) (ks2 := rm_Ro_cutOut.slots) (Nat.le_of_ble_eq_true rfl) (Nat.le_of_ble_eq_true rfl) ?_
  exact r_vret X hret hlk d_Ro_cutOut_96

def f_Ro_cutOut_29  (v0 : Option Nat) (v1 : Option Nat) (σ : Hp) : Option Hp :=
  Option.bind (ld_R σ v1 3 10) fun x10 =>
  if x10 = none then
  (
    Option.bind (ld_R σ v1 3 9) fun x35 =>
    Option.bind (st_R σ v0 7 1 x35) fun σ37 =>
    f_Ro_cutOut_58  v0 v1 σ37)
  else
  (
    Option.bind (ld_R σ v1 3 10) fun x13 =>
    Option.bind (ld_R σ v1 3 9) fun x15 =>
    Option.bind (st_R σ x13 3 9 x15) fun σ17 =>
    f_Ro_cutOut_58  v0 v1 σ17)
set_option maxRecDepth 100000 in
theorem b_Ro_cutOut_29 {p : Program} {l : Launch} {e : Env} {s : State} {m : MethodId} {args : Array Value} {below : List Frame} {meth : Method} {c : Code} {DD : DT} {σ0 σz : Hp} (X : CX p s m args c prog_8_method_3_code 2 (dm σ0) DD y_Ro_cutOut.cls) (hret : meth.sig.returnType = none) (hlk : meth.locks = false) (hnm : meth.name = y_Ro_cutOut.name)   (v0 : Option Nat) (v1 : Option Nat) (σ : Hp) (hf : f_Ro_cutOut_29  v0 v1 σ = some σz) : GG p l e rm_Ro_cutOut s m args below meth c 2 (dm σ0) DD (MQ below (Post DD σ0 none σz) args s rm_Ro_cutOut.cells rm_Ro_cutOut.slots (dm σ0)) 0 0 σ 29 [(0, tR v0), (1, tR v1)] [] := by
  unfold f_Ro_cutOut_29 at hf
  refine r_aload_n X d_Ro_cutOut_29 rfl 1 rfl ?_
  obtain ⟨x10, h11, hf⟩ := obind hf
  refine r_ld_R (ci := 3) (k := 10) X h11 (Nat.le_of_ble_eq_true rfl) (Nat.le_of_ble_eq_true rfl) rfl rfl q623 d_Ro_cutOut_30 ?_
  refine r_ifnonnull (tgt := 47) X d_Ro_cutOut_33 (by decide) (fun hc12 => ?_) (fun hc12 => ?_)
  · have hf := (if_neg hc12).symm.trans hf
    refine r_aload_n X d_Ro_cutOut_47 rfl 1 rfl ?_
    obtain ⟨x13, h14, hf⟩ := obind hf
    refine r_ld_R (ci := 3) (k := 10) X h14 (Nat.le_of_ble_eq_true rfl) (Nat.le_of_ble_eq_true rfl) rfl rfl q623 d_Ro_cutOut_48 ?_
    refine r_aload_n X d_Ro_cutOut_51 rfl 1 rfl ?_
    obtain ⟨x15, h16, hf⟩ := obind hf
    refine r_ld_R (ci := 3) (k := 9) X h16 (Nat.le_of_ble_eq_true rfl) (Nat.le_of_ble_eq_true rfl) rfl rfl q622 d_Ro_cutOut_52 ?_
    obtain ⟨σ17, h18, hf⟩ := obind hf
    refine r_st_R (ci := 3) (k := 9) X h18 (Nat.le_of_ble_eq_true rfl) (Nat.le_of_ble_eq_true rfl) rfl rfl rfl q622 d_Ro_cutOut_55 ?_
    refine r_widen (kc2 := 0) (ks2 := 0) (Nat.le_of_ble_eq_true rfl) (Nat.le_of_ble_eq_true rfl) ?_
    refine r_sub [0, 1] (lv' := [(0, tR v0), (1, tR v1)]) rfl ?_
    exact b_Ro_cutOut_58 X hret hlk hnm   v0 v1 σ17 hf
  · have hf := (if_pos hc12).symm.trans hf
    refine r_aload_n X d_Ro_cutOut_36 rfl 0 rfl ?_
    refine r_aload_n X d_Ro_cutOut_37 rfl 1 rfl ?_
    obtain ⟨x35, h36, hf⟩ := obind hf
    refine r_ld_R (ci := 3) (k := 9) X h36 (Nat.le_of_ble_eq_true rfl) (Nat.le_of_ble_eq_true rfl) rfl rfl q622 d_Ro_cutOut_38 ?_
    obtain ⟨σ37, h38, hf⟩ := obind hf
    refine r_st_R (ci := 7) (k := 1) X h38 (Nat.le_of_ble_eq_true rfl) (Nat.le_of_ble_eq_true rfl) rfl rfl rfl q146 d_Ro_cutOut_41 ?_
    refine r_goto (tgt := 58) X d_Ro_cutOut_44 (by decide) ?_
    refine r_widen (kc2 := 0) (ks2 := 0) (Nat.le_of_ble_eq_true rfl) (Nat.le_of_ble_eq_true rfl) ?_
    refine r_sub [0, 1] (lv' := [(0, tR v0), (1, tR v1)]) rfl ?_
    exact b_Ro_cutOut_58 X hret hlk hnm   v0 v1 σ37 hf

def f_Ro_cutOut (v0 : Option Nat) (v1 : Option Nat) (σ : Hp) : Option Hp :=
  Option.bind (ld_R σ v1 3 9) fun x1 =>
  if x1 = none then
  (
    Option.bind (ld_R σ v1 3 10) fun x39 =>
    Option.bind (st_R σ v0 7 0 x39) fun σ41 =>
    f_Ro_cutOut_29  v0 v1 σ41)
  else
  (
    Option.bind (ld_R σ v1 3 9) fun x4 =>
    Option.bind (ld_R σ v1 3 10) fun x6 =>
    Option.bind (st_R σ x4 3 10 x6) fun σ8 =>
    f_Ro_cutOut_29  v0 v1 σ8)
set_option maxRecDepth 100000 in
theorem c_Ro_cutOut {l : Launch} {DD : DT} (v0 : Option Nat) (v1 : Option Nat) {σ0 σz : Hp} (hf : f_Ro_cutOut v0 v1 σ0 = some σz) : CT l DD y_Ro_cutOut prog_8_method_3_code 2 none rm_Ro_cutOut [tR v0, tR v1] σ0 none σz := by
  refine r_met (by decide) (Nat.le_of_ble_eq_true rfl) ?_
  intro p e s m args below meth c X hret hlk hnm
  unfold f_Ro_cutOut at hf
  refine r_aload_n X d_Ro_cutOut_0 rfl 1 rfl ?_
  obtain ⟨x1, h2, hf⟩ := obind hf
  refine r_ld_R (ci := 3) (k := 9) X h2 (Nat.le_of_ble_eq_true rfl) (Nat.le_of_ble_eq_true rfl) rfl rfl q622 d_Ro_cutOut_1 ?_
  refine r_ifnonnull (tgt := 18) X d_Ro_cutOut_4 (by decide) (fun hc3 => ?_) (fun hc3 => ?_)
  · have hf := (if_neg hc3).symm.trans hf
    refine r_aload_n X d_Ro_cutOut_18 rfl 1 rfl ?_
    obtain ⟨x4, h5, hf⟩ := obind hf
    refine r_ld_R (ci := 3) (k := 9) X h5 (Nat.le_of_ble_eq_true rfl) (Nat.le_of_ble_eq_true rfl) rfl rfl q622 d_Ro_cutOut_19 ?_
    refine r_aload_n X d_Ro_cutOut_22 rfl 1 rfl ?_
    obtain ⟨x6, h7, hf⟩ := obind hf
    refine r_ld_R (ci := 3) (k := 10) X h7 (Nat.le_of_ble_eq_true rfl) (Nat.le_of_ble_eq_true rfl) rfl rfl q623 d_Ro_cutOut_23 ?_
    obtain ⟨σ8, h9, hf⟩ := obind hf
    refine r_st_R (ci := 3) (k := 10) X h9 (Nat.le_of_ble_eq_true rfl) (Nat.le_of_ble_eq_true rfl) rfl rfl rfl q623 d_Ro_cutOut_26 ?_
    refine r_widen (kc2 := 0) (ks2 := 0) (Nat.le_of_ble_eq_true rfl) (Nat.le_of_ble_eq_true rfl) ?_
    refine r_sub [0, 1] (lv' := [(0, tR v0), (1, tR v1)]) rfl ?_
    exact b_Ro_cutOut_29 X hret hlk hnm   v0 v1 σ8 hf
  · have hf := (if_pos hc3).symm.trans hf
    refine r_aload_n X d_Ro_cutOut_7 rfl 0 rfl ?_
    refine r_aload_n X d_Ro_cutOut_8 rfl 1 rfl ?_
    obtain ⟨x39, h40, hf⟩ := obind hf
    refine r_ld_R (ci := 3) (k := 10) X h40 (Nat.le_of_ble_eq_true rfl) (Nat.le_of_ble_eq_true rfl) rfl rfl q623 d_Ro_cutOut_9 ?_
    obtain ⟨σ41, h42, hf⟩ := obind hf
    refine r_st_R (ci := 7) (k := 0) X h42 (Nat.le_of_ble_eq_true rfl) (Nat.le_of_ble_eq_true rfl) rfl rfl rfl q144 d_Ro_cutOut_12 ?_
    refine r_goto (tgt := 29) X d_Ro_cutOut_15 (by decide) ?_
    refine r_widen (kc2 := 0) (ks2 := 0) (Nat.le_of_ble_eq_true rfl) (Nat.le_of_ble_eq_true rfl) ?_
    refine r_sub [0, 1] (lv' := [(0, tR v0), (1, tR v1)]) rfl ?_
    exact b_Ro_cutOut_29 X hret hlk hnm   v0 v1 σ41 hf

def f_Ro_addLatest_41  (v0 : Option Nat) (v1 : Option Nat) (σ : Hp) : Option Hp :=
  Option.bind (st_R σ v0 7 1 v1) fun σ16 =>
  Option.bind (ld_I σ16 v0 7 2) fun x18 =>
  Option.bind (ld_I σ16 v1 3 2) fun x20 =>
  Option.bind (st_I σ16 v0 7 2 (x18 + x20)) fun σ22 =>
  Option.bind (ld_I σ22 v0 7 3) fun x24 =>
  Option.bind (st_I σ22 v0 7 3 (x24 + 1)) fun σ26 =>
  some σ26
set_option maxRecDepth 100000 in
theorem b_Ro_addLatest_41 {p : Program} {l : Launch} {e : Env} {s : State} {m : MethodId} {args : Array Value} {below : List Frame} {meth : Method} {c : Code} {DD : DT} {σ0 σz : Hp} (X : CX p s m args c prog_8_method_2_code 2 (dm σ0) DD y_Ro_addLatest.cls) (hret : meth.sig.returnType = none) (hlk : meth.locks = false) (hnm : meth.name = y_Ro_addLatest.name)   (v0 : Option Nat) (v1 : Option Nat) (σ : Hp) (hf : f_Ro_addLatest_41  v0 v1 σ = some σz) : GG p l e rm_Ro_addLatest s m args below meth c 2 (dm σ0) DD (MQ below (Post DD σ0 none σz) args s rm_Ro_addLatest.cells rm_Ro_addLatest.slots (dm σ0)) 0 0 σ 41 [(0, tR v0), (1, tR v1)] [] := by
  unfold f_Ro_addLatest_41 at hf
  refine r_aload_n X d_Ro_addLatest_41 rfl 0 rfl ?_
  refine r_aload_n X d_Ro_addLatest_42 rfl 1 rfl ?_
  obtain ⟨σ16, h17, hf⟩ := obind hf
  refine r_st_R (ci := 7) (k := 1) X h17 (Nat.le_of_ble_eq_true rfl) (Nat.le_of_ble_eq_true rfl) rfl rfl rfl q146 d_Ro_addLatest_43 ?_
  refine r_aload_n X d_Ro_addLatest_46 rfl 0 rfl ?_
  refine r_dup X d_Ro_addLatest_47 rfl ?_
  obtain ⟨x18, h19, hf⟩ := obind hf
  refine r_ld_I (ci := 7) (k := 2) X h19 (Nat.le_of_ble_eq_true rfl) (Nat.le_of_ble_eq_true rfl) (Or.inl rfl) rfl q148 d_Ro_addLatest_48 ?_
  refine r_aload_n X d_Ro_addLatest_51 rfl 1 rfl ?_
  obtain ⟨x20, h21, hf⟩ := obind hf
  refine r_ld_I (ci := 3) (k := 2) X h21 (Nat.le_of_ble_eq_true rfl) (Nat.le_of_ble_eq_true rfl) (Or.inl rfl) rfl q610 d_Ro_addLatest_52 ?_
  refine r_iadd X d_Ro_addLatest_55 ?_
  obtain ⟨σ22, h23, hf⟩ := obind hf
  refine r_st_I (ci := 7) (k := 2) X h23 (Nat.le_of_ble_eq_true rfl) (Nat.le_of_ble_eq_true rfl) rfl rfl rfl q148 d_Ro_addLatest_56 ?_
  refine r_aload_n X d_Ro_addLatest_59 rfl 0 rfl ?_
  refine r_dup X d_Ro_addLatest_60 rfl ?_
  obtain ⟨x24, h25, hf⟩ := obind hf
  refine r_ld_I (ci := 7) (k := 3) X h25 (Nat.le_of_ble_eq_true rfl) (Nat.le_of_ble_eq_true rfl) (Or.inl rfl) rfl q150 d_Ro_addLatest_61 ?_
  refine r_iconst (v := 1) X d_Ro_addLatest_64 (by decide) ?_
  refine r_iadd X d_Ro_addLatest_65 ?_
  obtain ⟨σ26, h27, hf⟩ := obind hf
  refine r_st_I (ci := 7) (k := 3) X h27 (Nat.le_of_ble_eq_true rfl) (Nat.le_of_ble_eq_true rfl) rfl rfl rfl q150 d_Ro_addLatest_66 ?_
  cases hf
  refine r_widen (kc2 := rm_Ro_addLatest.cells) (ks2 := rm_Ro_addLatest.slots) (Nat.le_of_ble_eq_true rfl) (Nat.le_of_ble_eq_true rfl) ?_
  exact r_vret X hret hlk d_Ro_addLatest_69

def f_Ro_addLatest (v0 : Option Nat) (v1 : Option Nat) (σ : Hp) : Option Hp :=
  Option.bind (st_R σ v1 3 8 v0) fun σ1 =>
  Option.bind (ld_R σ1 v0 7 1) fun x3 =>
  Option.bind (st_R σ1 v1 3 9 x3) fun σ5 =>
  Option.bind (st_R σ5 v1 3 10 none) fun σ7 =>
  Option.bind (ld_R σ7 v0 7 1) fun x9 =>
  if x9 = none then
  (
    Option.bind (st_R σ7 v0 7 0 v1) fun σ28 =>
    f_Ro_addLatest_41  v0 v1 σ28)
  else
  (
    Option.bind (ld_R σ7 v0 7 1) fun x12 =>
    Option.bind (st_R σ7 x12 3 10 v1) fun σ14 =>
    f_Ro_addLatest_41  v0 v1 σ14)
set_option maxRecDepth 100000 in
theorem c_Ro_addLatest {l : Launch} {DD : DT} (v0 : Option Nat) (v1 : Option Nat) {σ0 σz : Hp} (hf : f_Ro_addLatest v0 v1 σ0 = some σz) : CT l DD y_Ro_addLatest prog_8_method_2_code 2 none rm_Ro_addLatest [tR v0, tR v1] σ0 none σz := by
  refine r_met (by decide) (Nat.le_of_ble_eq_true rfl) ?_
  intro p e s m args below meth c X hret hlk hnm
  unfold f_Ro_addLatest at hf
  refine r_aload_n X d_Ro_addLatest_0 rfl 1 rfl ?_
  refine r_aload_n X d_Ro_addLatest_1 rfl 0 rfl ?_
  obtain ⟨σ1, h2, hf⟩ := obind hf
  refine r_st_R (ci := 3) (k := 8) X h2 (Nat.le_of_ble_eq_true rfl) (Nat.le_of_ble_eq_true rfl) rfl rfl rfl q619 d_Ro_addLatest_2 ?_
  refine r_aload_n X d_Ro_addLatest_5 rfl 1 rfl ?_
  refine r_aload_n X d_Ro_addLatest_6 rfl 0 rfl ?_
  obtain ⟨x3, h4, hf⟩ := obind hf
  refine r_ld_R (ci := 7) (k := 1) X h4 (Nat.le_of_ble_eq_true rfl) (Nat.le_of_ble_eq_true rfl) rfl rfl q146 d_Ro_addLatest_7 ?_
  obtain ⟨σ5, h6, hf⟩ := obind hf
  refine r_st_R (ci := 3) (k := 9) X h6 (Nat.le_of_ble_eq_true rfl) (Nat.le_of_ble_eq_true rfl) rfl rfl rfl q622 d_Ro_addLatest_10 ?_
  refine r_aload_n X d_Ro_addLatest_13 rfl 1 rfl ?_
  refine r_null X d_Ro_addLatest_14 ?_
  obtain ⟨σ7, h8, hf⟩ := obind hf
  refine r_st_R (ci := 3) (k := 10) X h8 (Nat.le_of_ble_eq_true rfl) (Nat.le_of_ble_eq_true rfl) rfl rfl rfl q623 d_Ro_addLatest_15 ?_
  refine r_aload_n X d_Ro_addLatest_18 rfl 0 rfl ?_
  obtain ⟨x9, h10, hf⟩ := obind hf
  refine r_ld_R (ci := 7) (k := 1) X h10 (Nat.le_of_ble_eq_true rfl) (Nat.le_of_ble_eq_true rfl) rfl rfl q146 d_Ro_addLatest_19 ?_
  refine r_ifnonnull (tgt := 33) X d_Ro_addLatest_22 (by decide) (fun hc11 => ?_) (fun hc11 => ?_)
  · have hf := (if_neg hc11).symm.trans hf
    refine r_aload_n X d_Ro_addLatest_33 rfl 0 rfl ?_
    obtain ⟨x12, h13, hf⟩ := obind hf
    refine r_ld_R (ci := 7) (k := 1) X h13 (Nat.le_of_ble_eq_true rfl) (Nat.le_of_ble_eq_true rfl) rfl rfl q146 d_Ro_addLatest_34 ?_
    refine r_aload_n X d_Ro_addLatest_37 rfl 1 rfl ?_
    obtain ⟨σ14, h15, hf⟩ := obind hf
    refine r_st_R (ci := 3) (k := 10) X h15 (Nat.le_of_ble_eq_true rfl) (Nat.le_of_ble_eq_true rfl) rfl rfl rfl q623 d_Ro_addLatest_38 ?_
    refine r_widen (kc2 := 0) (ks2 := 0) (Nat.le_of_ble_eq_true rfl) (Nat.le_of_ble_eq_true rfl) ?_
    refine r_sub [0, 1] (lv' := [(0, tR v0), (1, tR v1)]) rfl ?_
    exact b_Ro_addLatest_41 X hret hlk hnm   v0 v1 σ14 hf
  · have hf := (if_pos hc11).symm.trans hf
    refine r_aload_n X d_Ro_addLatest_25 rfl 0 rfl ?_
    refine r_aload_n X d_Ro_addLatest_26 rfl 1 rfl ?_
    obtain ⟨σ28, h29, hf⟩ := obind hf
    refine r_st_R (ci := 7) (k := 0) X h29 (Nat.le_of_ble_eq_true rfl) (Nat.le_of_ble_eq_true rfl) rfl rfl rfl q144 d_Ro_addLatest_27 ?_
    refine r_goto (tgt := 41) X d_Ro_addLatest_30 (by decide) ?_
    refine r_widen (kc2 := 0) (ks2 := 0) (Nat.le_of_ble_eq_true rfl) (Nat.le_of_ble_eq_true rfl) ?_
    refine r_sub [0, 1] (lv' := [(0, tR v0), (1, tR v1)]) rfl ?_
    exact b_Ro_addLatest_41 X hret hlk hnm   v0 v1 σ28 hf

def f_Ro_goesBefore_32   (σ : Hp) : Option (Int32 × Hp) :=
  some (1, σ)
set_option maxRecDepth 100000 in
theorem b_Ro_goesBefore_32 {p : Program} {l : Launch} {e : Env} {s : State} {m : MethodId} {args : Array Value} {below : List Frame} {meth : Method} {c : Code} {DD : DT} {σ0 σz : Hp} {rz : Int32} (X : CX p s m args c prog_8_method_6_code 2 (dm σ0) DD y_Ro_goesBefore.cls) (hret : meth.sig.returnType = some .boolean) (hlk : meth.locks = false) (hnm : meth.name = y_Ro_goesBefore.name)    (σ : Hp) (hf : f_Ro_goesBefore_32   σ = some (rz, σz)) : GG p l e rm_Ro_goesBefore s m args below meth c 2 (dm σ0) DD (MQ below (Post DD σ0 (some (tI rz)) σz) args s rm_Ro_goesBefore.cells rm_Ro_goesBefore.slots (dm σ0)) 0 0 σ 32 [] [] := by
  unfold f_Ro_goesBefore_32 at hf
  refine r_iconst (v := 1) X d_Ro_goesBefore_32 (by decide) ?_
  refine r_goto (tgt := 37) X d_Ro_goesBefore_33 (by decide) ?_
  cases hf
  refine r_widen (kc2 := rm_Ro_goesBefore.cells) (ks2 := rm_Ro_goesBefore.slots) (Nat.le_of_ble_eq_true rfl) (Nat.le_of_ble_eq_true rfl) ?_
  exact r_zret X hret hlk (by decide) d_Ro_goesBefore_37

def f_Ro_goesBefore_16  (v0 : Option Nat) (v1 : Option Nat) (σ : Hp) : Option (Int32 × Hp) :=
  if v1 = none then
  (
    f_Ro_goesBefore_32   σ)
  else
  (
    Option.bind (ld_L σ v0 3 5) fun x3 =>
    Option.bind (ld_L σ v1 3 5) fun x5 =>
    if 0 ≤ (lg_cmp x3 x5) then
    (
      some (0, σ))
    else
    (
      f_Ro_goesBefore_32   σ))
set_option maxRecDepth 100000 in
theorem b_Ro_goesBefore_16 {p : Program} {l : Launch} {e : Env} {s : State} {m : MethodId} {args : Array Value} {below : List Frame} {meth : Method} {c : Code} {DD : DT} {σ0 σz : Hp} {rz : Int32} (X : CX p s m args c prog_8_method_6_code 2 (dm σ0) DD y_Ro_goesBefore.cls) (hret : meth.sig.returnType = some .boolean) (hlk : meth.locks = false) (hnm : meth.name = y_Ro_goesBefore.name)   (v0 : Option Nat) (v1 : Option Nat) (σ : Hp) (hf : f_Ro_goesBefore_16  v0 v1 σ = some (rz, σz)) : GG p l e rm_Ro_goesBefore s m args below meth c 2 (dm σ0) DD (MQ below (Post DD σ0 (some (tI rz)) σz) args s rm_Ro_goesBefore.cells rm_Ro_goesBefore.slots (dm σ0)) 0 0 σ 16 [(0, tR v0), (1, tR v1)] [] := by
  unfold f_Ro_goesBefore_16 at hf
  refine r_aload_n X d_Ro_goesBefore_16 rfl 1 rfl ?_
  refine r_ifnull (tgt := 32) X d_Ro_goesBefore_17 (by decide) (fun hc2 => ?_) (fun hc2 => ?_)
  · have hf := (if_pos hc2).symm.trans hf
    refine r_widen (kc2 := 0) (ks2 := 0) (Nat.le_of_ble_eq_true rfl) (Nat.le_of_ble_eq_true rfl) ?_
    refine r_sub [] (lv' := []) rfl ?_
    exact b_Ro_goesBefore_32 X hret hlk hnm    σ hf
  · have hf := (if_neg hc2).symm.trans hf
    refine r_aload_n X d_Ro_goesBefore_20 rfl 0 rfl ?_
    obtain ⟨x3, h4, hf⟩ := obind hf
    refine r_ld_L (ci := 3) (k := 5) X h4 (Nat.le_of_ble_eq_true rfl) (Nat.le_of_ble_eq_true rfl) rfl rfl q616 d_Ro_goesBefore_21 ?_
    refine r_aload_n X d_Ro_goesBefore_24 rfl 1 rfl ?_
    obtain ⟨x5, h6, hf⟩ := obind hf
    refine r_ld_L (ci := 3) (k := 5) X h6 (Nat.le_of_ble_eq_true rfl) (Nat.le_of_ble_eq_true rfl) rfl rfl q616 d_Ro_goesBefore_25 ?_
    refine r_lcmp X d_Ro_goesBefore_28 ?_
    refine r_if_ge (tgt := 36) X d_Ro_goesBefore_29 (by decide) (fun hc7 => ?_) (fun hc7 => ?_)
    · have hf := (if_pos hc7).symm.trans hf
      refine r_iconst (v := 0) X d_Ro_goesBefore_36 (by decide) ?_
      cases hf
      refine r_widen (kc2 := rm_Ro_goesBefore.cells) (ks2 := rm_Ro_goesBefore.slots) (Nat.le_of_ble_eq_true rfl) (Nat.le_of_ble_eq_true rfl) ?_
      exact r_zret X hret hlk (by decide) d_Ro_goesBefore_37
    · have hf := (if_neg hc7).symm.trans hf
      refine r_widen (kc2 := 0) (ks2 := 0) (Nat.le_of_ble_eq_true rfl) (Nat.le_of_ble_eq_true rfl) ?_
      refine r_sub [] (lv' := []) rfl ?_
      exact b_Ro_goesBefore_32 X hret hlk hnm    σ hf

def f_Ro_goesBefore (v0 : Option Nat) (v1 : Option Nat) (σ : Hp) : Option (Int32 × Hp) :=
  if v1 = none then
  (
    f_Ro_goesBefore_16  v0 v1 σ)
  else
  (
    Option.bind (ld_L σ v0 3 5) fun x8 =>
    Option.bind (ld_L σ v1 3 5) fun x10 =>
    if (lg_cmp x8 x10) = 0 then
    (
      Option.bind (ld_I σ v0 3 0) fun x13 =>
      Option.bind (ld_I σ v1 3 0) fun x15 =>
      if x15 ≤ x13 then
      (
        some (0, σ))
      else
      (
        some (1, σ)))
    else
    (
      f_Ro_goesBefore_16  v0 v1 σ))
set_option maxRecDepth 100000 in
theorem c_Ro_goesBefore {l : Launch} {DD : DT} (v0 : Option Nat) (v1 : Option Nat) {σ0 σz : Hp} {rz : Int32} (hf : f_Ro_goesBefore v0 v1 σ0 = some (rz, σz)) : CT l DD y_Ro_goesBefore prog_8_method_6_code 2 (some .boolean) rm_Ro_goesBefore [tR v0, tR v1] σ0 (some (tI rz)) σz := by
  refine r_met (by decide) (Nat.le_of_ble_eq_true rfl) ?_
  intro p e s m args below meth c X hret hlk hnm
  unfold f_Ro_goesBefore at hf
  refine r_aload_n X d_Ro_goesBefore_0 rfl 1 rfl ?_
  refine r_ifnull (tgt := 16) X d_Ro_goesBefore_1 (by decide) (fun hc1 => ?_) (fun hc1 => ?_)
  · have hf := (if_pos hc1).symm.trans hf
    refine r_widen (kc2 := 0) (ks2 := 0) (Nat.le_of_ble_eq_true rfl) (Nat.le_of_ble_eq_true rfl) ?_
    refine r_sub [0, 1] (lv' := [(0, tR v0), (1, tR v1)]) rfl ?_
    exact b_Ro_goesBefore_16 X hret hlk hnm   v0 v1 σ0 hf
  · have hf := (if_neg hc1).symm.trans hf
    refine r_aload_n X d_Ro_goesBefore_4 rfl 0 rfl ?_
    obtain ⟨x8, h9, hf⟩ := obind hf
    refine r_ld_L (ci := 3) (k := 5) X h9 (Nat.le_of_ble_eq_true rfl) (Nat.le_of_ble_eq_true rfl) rfl rfl q616 d_Ro_goesBefore_5 ?_
    refine r_aload_n X d_Ro_goesBefore_8 rfl 1 rfl ?_
    obtain ⟨x10, h11, hf⟩ := obind hf
    refine r_ld_L (ci := 3) (k := 5) X h11 (Nat.le_of_ble_eq_true rfl) (Nat.le_of_ble_eq_true rfl) rfl rfl q616 d_Ro_goesBefore_9 ?_
    refine r_lcmp X d_Ro_goesBefore_12 ?_
    refine r_if_eq (tgt := 38) X d_Ro_goesBefore_13 (by decide) (fun hc12 => ?_) (fun hc12 => ?_)
    · have hf := (if_pos hc12).symm.trans hf
      refine r_aload_n X d_Ro_goesBefore_38 rfl 0 rfl ?_
      obtain ⟨x13, h14, hf⟩ := obind hf
      refine r_ld_I (ci := 3) (k := 0) X h14 (Nat.le_of_ble_eq_true rfl) (Nat.le_of_ble_eq_true rfl) (Or.inl rfl) rfl q606 d_Ro_goesBefore_39 ?_
      refine r_aload_n X d_Ro_goesBefore_42 rfl 1 rfl ?_
      obtain ⟨x15, h16, hf⟩ := obind hf
      refine r_ld_I (ci := 3) (k := 0) X h16 (Nat.le_of_ble_eq_true rfl) (Nat.le_of_ble_eq_true rfl) (Or.inl rfl) rfl q606 d_Ro_goesBefore_43 ?_
      refine r_icmp_ge (tgt := 53) X d_Ro_goesBefore_46 (by decide) (fun hc17 => ?_) (fun hc17 => ?_)
      · have hf := (if_pos hc17).symm.trans hf
        refine r_iconst (v := 0) X d_Ro_goesBefore_53 (by decide) ?_
        cases hf
        refine r_widen (kc2 := rm_Ro_goesBefore.cells) (ks2 := rm_Ro_goesBefore.slots) (Nat.le_of_ble_eq_true rfl) (Nat.le_of_ble_eq_true rfl) ?_
        exact r_zret X hret hlk (by decide) d_Ro_goesBefore_54
      · have hf := (if_neg hc17).symm.trans hf
        refine r_iconst (v := 1) X d_Ro_goesBefore_49 (by decide) ?_
        refine r_goto (tgt := 54) X d_Ro_goesBefore_50 (by decide) ?_
        cases hf
        refine r_widen (kc2 := rm_Ro_goesBefore.cells) (ks2 := rm_Ro_goesBefore.slots) (Nat.le_of_ble_eq_true rfl) (Nat.le_of_ble_eq_true rfl) ?_
        exact r_zret X hret hlk (by decide) d_Ro_goesBefore_54
    · have hf := (if_neg hc12).symm.trans hf
      refine r_widen (kc2 := 0) (ks2 := 0) (Nat.le_of_ble_eq_true rfl) (Nat.le_of_ble_eq_true rfl) ?_
      refine r_sub [0, 1] (lv' := [(0, tR v0), (1, tR v1)]) rfl ?_
      exact b_Ro_goesBefore_16 X hret hlk hnm   v0 v1 σ0 hf

def f_Ro_firstOver_38 (n : Nat) (rec9 : Int64 → Option Nat → Option Nat → Hp → Option (Option Nat × Hp)) (v1 : Int64) (v4 : Option Nat) (v5 : Option Nat) (σ : Hp) : Option (Option Nat × Hp) :=
  Option.bind (ld_R σ v5 3 10) fun x7 =>
  rec9 v1 v4 x7 σ
set_option maxRecDepth 100000 in
theorem b_Ro_firstOver_38 {p : Program} {l : Launch} {e : Env} {s : State} {m : MethodId} {args : Array Value} {below : List Frame} {meth : Method} {c : Code} {DD : DT} {σ0 σz : Hp} {rz : Option Nat} (X : CX p s m args c prog_8_method_5_code 6 (dm σ0) DD y_Ro_firstOver.cls) (hret : meth.sig.returnType = some (.object "WindowCache$Entry")) (hlk : meth.locks = false) (hnm : meth.name = y_Ro_firstOver.name) (n : Nat) (rec9 : Int64 → Option Nat → Option Nat → Hp → Option (Option Nat × Hp)) (hrec9 : ∀ (v1 : Int64) (v4 : Option Nat) (v5 : Option Nat) (σ : Hp), rec9 v1 v4 v5 σ = some (rz, σz) → GG p l e rm_Ro_firstOver s m args below meth c 6 (dm σ0) DD (MQ below (Post DD σ0 (some (tR rz)) σz) args s rm_Ro_firstOver.cells rm_Ro_firstOver.slots (dm σ0)) 0 0 σ 9 [(1, tL v1), (4, tR v4), (5, tR v5)] []) (v1 : Int64) (v4 : Option Nat) (v5 : Option Nat) (σ : Hp) (hf : f_Ro_firstOver_38 n rec9 v1 v4 v5 σ = some (rz, σz)) : GG p l e rm_Ro_firstOver s m args below meth c 6 (dm σ0) DD (MQ below (Post DD σ0 (some (tR rz)) σz) args s rm_Ro_firstOver.cells rm_Ro_firstOver.slots (dm σ0)) 0 0 σ 38 [(1, tL v1), (4, tR v4), (5, tR v5)] [] := by
  unfold f_Ro_firstOver_38 at hf
  refine r_aload X d_Ro_firstOver_38 2 rfl ?_
  obtain ⟨x7, h8, hf⟩ := obind hf
  refine r_ld_R (ci := 3) (k := 10) X h8 (Nat.le_of_ble_eq_true rfl) (Nat.le_of_ble_eq_true rfl) rfl rfl q623 d_Ro_firstOver_40 ?_
  refine r_astore (lv' := [(1, tL v1), (4, tR v4), (5, tR x7)]) X [1, 2, 0] d_Ro_firstOver_43 (Nat.le_of_ble_eq_true rfl) rfl ?_
  refine r_goto (tgt := 9) X d_Ro_firstOver_45 (by decide) ?_
  refine r_widen (kc2 := 0) (ks2 := 0) (Nat.le_of_ble_eq_true rfl) (Nat.le_of_ble_eq_true rfl) ?_
  refine r_sub [0, 1, 2] (lv' := [(1, tL v1), (4, tR v4), (5, tR x7)]) rfl ?_
  exact hrec9 v1 v4 x7 σ hf

def f_Ro_firstOver_9 (n : Nat)  : Nat → Int64 → Option Nat → Option Nat → Hp → Option (Option Nat × Hp)
  | 0, _, _, _, _ => none
  | i + 1, v1, v4, v5, σ =>
    if v5 = none then
    (
      some (v4, σ))
    else
    (
      Option.bind (ld_L σ v5 3 5) fun x4 =>
      if (lg_cmp v1 x4) < 0 then
      (
        f_Ro_firstOver_38 n (f_Ro_firstOver_9 n i) v1 v4 v5 σ)
      else
      (
        pb (f_Ro_goesBefore v5 v4 σ) fun x11 σ10 =>
        if x11 = 0 then
        (
          f_Ro_firstOver_38 n (f_Ro_firstOver_9 n i) v1 v4 v5 σ10)
        else
        (
          f_Ro_firstOver_38 n (f_Ro_firstOver_9 n i) v1 v5 v5 σ10)))
set_option maxRecDepth 100000 in
theorem b_Ro_firstOver_9 {p : Program} {l : Launch} {e : Env} {s : State} {m : MethodId} {args : Array Value} {below : List Frame} {meth : Method} {c : Code} {DD : DT} {σ0 σz : Hp} {rz : Option Nat} (X : CX p s m args c prog_8_method_5_code 6 (dm σ0) DD y_Ro_firstOver.cls) (hret : meth.sig.returnType = some (.object "WindowCache$Entry")) (hlk : meth.locks = false) (hnm : meth.name = y_Ro_firstOver.name) (n : Nat)   : ∀ (i : Nat) (v1 : Int64) (v4 : Option Nat) (v5 : Option Nat) (σ : Hp) (hf : f_Ro_firstOver_9 n  i v1 v4 v5 σ = some (rz, σz)), GG p l e rm_Ro_firstOver s m args below meth c 6 (dm σ0) DD (MQ below (Post DD σ0 (some (tR rz)) σz) args s rm_Ro_firstOver.cells rm_Ro_firstOver.slots (dm σ0)) 0 0 σ 9 [(1, tL v1), (4, tR v4), (5, tR v5)] [] := by
  intro i
  induction i with
  | zero => intro v1 v4 v5 σ hf; cases hf
  | succ i ih =>
    intro v1 v4 v5 σ hf
    simp only [f_Ro_firstOver_9] at hf
    refine r_aload X d_Ro_firstOver_9 2 rfl ?_
    refine r_ifnull (tgt := 48) X d_Ro_firstOver_11 (by decide) (fun hc3 => ?_) (fun hc3 => ?_)
    · have hf := (if_pos hc3).symm.trans hf
      refine r_aload X d_Ro_firstOver_48 1 rfl ?_
      cases hf
      refine r_widen (kc2 := rm_Ro_firstOver.cells) (ks2 := rm_Ro_firstOver.slots) (Nat.le_of_ble_eq_true rfl) (Nat.le_of_ble_eq_true rfl) ?_
      exact r_aret X hret hlk d_Ro_firstOver_50
    · have hf := (if_neg hc3).symm.trans hf
      refine r_lload_n X d_Ro_firstOver_14 rfl 0 rfl ?_
      refine r_aload X d_Ro_firstOver_15 2 rfl ?_
      obtain ⟨x4, h5, hf⟩ := obind hf
      refine r_ld_L (ci := 3) (k := 5) X h5 (Nat.le_of_ble_eq_true rfl) (Nat.le_of_ble_eq_true rfl) rfl rfl q616 d_Ro_firstOver_17 ?_
      refine r_lcmp X d_Ro_firstOver_20 ?_
      refine r_if_lt (tgt := 38) X d_Ro_firstOver_21 (by decide) (fun hc6 => ?_) (fun hc6 => ?_)
      · have hf := (if_pos hc6).symm.trans hf
        refine r_widen (kc2 := 0) (ks2 := 0) (Nat.le_of_ble_eq_true rfl) (Nat.le_of_ble_eq_true rfl) ?_
        refine r_sub [0, 1, 2] (lv' := [(1, tL v1), (4, tR v4), (5, tR v5)]) rfl ?_
        exact b_Ro_firstOver_38 X hret hlk hnm n (f_Ro_firstOver_9 n i) ih v1 v4 v5 σ hf
      · have hf := (if_neg hc6).symm.trans hf
        refine r_aload X d_Ro_firstOver_24 2 rfl ?_
        refine r_aload X d_Ro_firstOver_26 1 rfl ?_
        obtain ⟨x11, σ10, h9, hf⟩ := pbind hf
        refine r_callS (st := []) X [tR v5, tR v4] q388 q389 (c_Ro_goesBefore v5 v4 h9) q390 q9 y_Ro_goesBefore_ok rfl ⟨Nat.le_of_ble_eq_true rfl, Nat.le_of_ble_eq_true rfl⟩ (Nat.le_of_ble_eq_true rfl) ⟨Nat.le_of_ble_eq_true rfl, Nat.le_of_ble_eq_true rfl⟩ d_Ro_firstOver_28 ?_
        refine r_if_eq (tgt := 38) X d_Ro_firstOver_31 (by decide) (fun hc12 => ?_) (fun hc12 => ?_)
        · have hf := (if_pos hc12).symm.trans hf
          refine r_widen (kc2 := 0) (ks2 := 0) (Nat.le_of_ble_eq_true rfl) (Nat.le_of_ble_eq_true rfl) ?_
          refine r_sub [0, 1, 2] (lv' := [(1, tL v1), (4, tR v4), (5, tR v5)]) rfl ?_
          exact b_Ro_firstOver_38 X hret hlk hnm n (f_Ro_firstOver_9 n i) ih v1 v4 v5 σ10 hf
        · have hf := (if_neg hc12).symm.trans hf
          refine r_aload X d_Ro_firstOver_34 2 rfl ?_
          refine r_astore (lv' := [(1, tL v1), (4, tR v5), (5, tR v5)]) X [1, 0, 2] d_Ro_firstOver_36 (Nat.le_of_ble_eq_true rfl) rfl ?_
          refine r_widen (kc2 := 0) (ks2 := 0) (Nat.le_of_ble_eq_true rfl) (Nat.le_of_ble_eq_true rfl) ?_
          refine r_sub [0, 1, 2] (lv' := [(1, tL v1), (4, tR v5), (5, tR v5)]) rfl ?_
          exact b_Ro_firstOver_38 X hret hlk hnm n (f_Ro_firstOver_9 n i) ih v1 v5 v5 σ10 hf

def f_Ro_firstOver (n : Nat) (v0 : Option Nat) (v1 : Int64) (v3 : Option Nat) (σ : Hp) : Option (Option Nat × Hp) :=
  Option.bind (ld_R σ v0 7 0) fun x1 =>
  f_Ro_firstOver_9 n  n v1 v3 x1 σ
set_option maxRecDepth 100000 in
theorem c_Ro_firstOver {l : Launch} {DD : DT} (n : Nat) (v0 : Option Nat) (v1 : Int64) (v3 : Option Nat) {σ0 σz : Hp} {rz : Option Nat} (hf : f_Ro_firstOver n v0 v1 v3 σ0 = some (rz, σz)) : CT l DD y_Ro_firstOver prog_8_method_5_code 6 (some (.object "WindowCache$Entry")) rm_Ro_firstOver [tR v0, tL v1, tR v3] σ0 (some (tR rz)) σz := by
  refine r_met (by decide) (Nat.le_of_ble_eq_true rfl) ?_
  intro p e s m args below meth c X hret hlk hnm
  unfold f_Ro_firstOver at hf
  refine r_aload_n X d_Ro_firstOver_0 rfl 2 rfl ?_
  refine r_astore (lv' := [(0, tR v0), (1, tL v1), (4, tR v3)]) X [1, 2, 0] d_Ro_firstOver_1 (Nat.le_of_ble_eq_true rfl) rfl ?_
  refine r_aload_n X d_Ro_firstOver_3 rfl 0 rfl ?_
  obtain ⟨x1, h2, hf⟩ := obind hf
  refine r_ld_R (ci := 7) (k := 0) X h2 (Nat.le_of_ble_eq_true rfl) (Nat.le_of_ble_eq_true rfl) rfl rfl q144 d_Ro_firstOver_4 ?_
  refine r_astore (lv' := [(1, tL v1), (4, tR v3), (5, tR x1)]) X [2, 3, 0] d_Ro_firstOver_7 (Nat.le_of_ble_eq_true rfl) rfl ?_
  refine r_widen (kc2 := 0) (ks2 := 0) (Nat.le_of_ble_eq_true rfl) (Nat.le_of_ble_eq_true rfl) ?_
  refine r_sub [0, 1, 2] (lv' := [(1, tL v1), (4, tR v3), (5, tR x1)]) rfl ?_
  exact b_Ro_firstOver_9 X hret hlk hnm n   n v1 v3 x1 σ0 hf

def f_Wa_init (v0 : Option Nat) (v1 : Option Nat) (v2 : Int32) (σ : Hp) : Option Hp :=
  Option.bind v0 fun x1 =>
  Option.bind (st_R σ v0 10 0 v1) fun σ3 =>
  Option.bind (st_I σ3 v0 10 1 v2) fun σ5 =>
  some σ5
set_option maxRecDepth 100000 in
theorem c_Wa_init {l : Launch} {DD : DT} (v0 : Option Nat) (v1 : Option Nat) (v2 : Int32) {σ0 σz : Hp} (hf : f_Wa_init v0 v1 v2 σ0 = some σz) : CT l DD y_Wa_init prog_11_method_1_code 3 none rm_Wa_init [tR v0, tR v1, tI v2] σ0 none σz := by
  refine r_met (by decide) (Nat.le_of_ble_eq_true rfl) ?_
  intro p e s m args below meth c X hret hlk hnm
  unfold f_Wa_init at hf
  refine r_aload_n X d_Wa_init_0 rfl 0 rfl ?_
  obtain ⟨x1, h2, hf⟩ := obind hf
  refine r_objInit X h2 q457 q26 q27 (Nat.le_of_ble_eq_true rfl) (Nat.le_of_ble_eq_true rfl) d_Wa_init_1 ?_
  refine r_aload_n X d_Wa_init_4 rfl 0 rfl ?_
  refine r_aload_n X d_Wa_init_5 rfl 1 rfl ?_
  obtain ⟨σ3, h4, hf⟩ := obind hf
  refine r_stF_R (ci := 10) (k := 0) X h4 (Nat.le_of_ble_eq_true rfl) (Nat.le_of_ble_eq_true rfl) rfl rfl rfl hnm rfl q458 d_Wa_init_6 ?_
  refine r_aload_n X d_Wa_init_9 rfl 0 rfl ?_
  refine r_iload_n X d_Wa_init_10 rfl 2 rfl ?_
  obtain ⟨σ5, h6, hf⟩ := obind hf
  refine r_stF_I (ci := 10) (k := 1) X h6 (Nat.le_of_ble_eq_true rfl) (Nat.le_of_ble_eq_true rfl) rfl rfl rfl hnm rfl q460 d_Wa_init_11 ?_
  cases hf
  refine r_widen (kc2 := rm_Wa_init.cells) (ks2 := rm_Wa_init.slots) (Nat.le_of_ble_eq_true rfl) (Nat.le_of_ble_eq_true rfl) ?_
  exact r_vret X hret hlk d_Wa_init_14

def f_Ro_keyAt_21 (n : Nat)  : Nat → Int32 → Int32 → Option Nat → Hp → Option (Int32 × Hp)
  | 0, _, _, _, _ => none
  | i + 1, v1, v2, v3, σ =>
    if v3 = none then
    (
      some ((-1), σ))
    else
    (
      if v2 = v1 then
      (
        Option.bind (ld_I σ v3 3 0) fun x11 =>
        some (x11, σ))
      else
      (
        Option.bind (ld_R σ v3 3 10) fun x9 =>
        f_Ro_keyAt_21 n i v1 (v2 + 1) x9 σ))
set_option maxRecDepth 100000 in
theorem b_Ro_keyAt_21 {p : Program} {l : Launch} {e : Env} {s : State} {m : MethodId} {args : Array Value} {below : List Frame} {meth : Method} {c : Code} {DD : DT} {σ0 σz : Hp} {rz : Int32} (X : CX p s m args c prog_8_method_4_code 4 (dm σ0) DD y_Ro_keyAt.cls) (hret : meth.sig.returnType = some .int) (hlk : meth.locks = false) (hnm : meth.name = y_Ro_keyAt.name) (n : Nat)   : ∀ (i : Nat) (v1 : Int32) (v2 : Int32) (v3 : Option Nat) (σ : Hp) (hf : f_Ro_keyAt_21 n  i v1 v2 v3 σ = some (rz, σz)), GG p l e rm_Ro_keyAt s m args below meth c 4 (dm σ0) DD (MQ below (Post DD σ0 (some (tI rz)) σz) args s rm_Ro_keyAt.cells rm_Ro_keyAt.slots (dm σ0)) 0 0 σ 21 [(1, tI v1), (2, tI v2), (3, tR v3)] [] := by
  intro i
  induction i with
  | zero => intro v1 v2 v3 σ hf; cases hf
  | succ i ih =>
    intro v1 v2 v3 σ hf
    simp only [f_Ro_keyAt_21] at hf
    refine r_aload_n X d_Ro_keyAt_21 rfl 2 rfl ?_
    refine r_ifnull (tgt := 46) X d_Ro_keyAt_22 (by decide) (fun hc7 => ?_) (fun hc7 => ?_)
    · have hf := (if_pos hc7).symm.trans hf
      refine r_iconst (v := -1) X d_Ro_keyAt_46 (by decide) ?_
      cases hf
      refine r_widen (kc2 := rm_Ro_keyAt.cells) (ks2 := rm_Ro_keyAt.slots) (Nat.le_of_ble_eq_true rfl) (Nat.le_of_ble_eq_true rfl) ?_
      exact r_iret X hret hlk d_Ro_keyAt_47
    · have hf := (if_neg hc7).symm.trans hf
      refine r_iload_n X d_Ro_keyAt_25 rfl 1 rfl ?_
      refine r_iload_n X d_Ro_keyAt_26 rfl 0 rfl ?_
      refine r_icmp_ne (tgt := 35) X d_Ro_keyAt_27 (by decide) (fun hc8 => ?_) (fun hc8 => ?_)
      · have hf := (if_neg hc8).symm.trans hf
        refine r_iinc (lv' := [(1, tI v1), (2, tI (v2 + 1)), (3, tR v3)]) (j := 1) X [1, 0, 2] d_Ro_keyAt_35 rfl rfl (Nat.le_of_ble_eq_true rfl) rfl ?_
        refine r_aload_n X d_Ro_keyAt_38 rfl 2 rfl ?_
        obtain ⟨x9, h10, hf⟩ := obind hf
        refine r_ld_R (ci := 3) (k := 10) X h10 (Nat.le_of_ble_eq_true rfl) (Nat.le_of_ble_eq_true rfl) rfl rfl q623 d_Ro_keyAt_39 ?_
        refine r_astore_n (lv' := [(1, tI v1), (2, tI (v2 + 1)), (3, tR x9)]) X [1, 2, 0] d_Ro_keyAt_42 rfl (Nat.le_of_ble_eq_true rfl) rfl ?_
        refine r_goto (tgt := 21) X d_Ro_keyAt_43 (by decide) ?_
        refine r_widen (kc2 := 0) (ks2 := 0) (Nat.le_of_ble_eq_true rfl) (Nat.le_of_ble_eq_true rfl) ?_
        refine r_sub [0, 1, 2] (lv' := [(1, tI v1), (2, tI (v2 + 1)), (3, tR x9)]) rfl ?_
        exact ih v1 (v2 + 1) x9 σ hf
      · have hf := (if_pos hc8).symm.trans hf
        refine r_aload_n X d_Ro_keyAt_30 rfl 2 rfl ?_
        obtain ⟨x11, h12, hf⟩ := obind hf
        refine r_ld_I (ci := 3) (k := 0) X h12 (Nat.le_of_ble_eq_true rfl) (Nat.le_of_ble_eq_true rfl) (Or.inl rfl) rfl q606 d_Ro_keyAt_31 ?_
        cases hf
        refine r_widen (kc2 := rm_Ro_keyAt.cells) (ks2 := rm_Ro_keyAt.slots) (Nat.le_of_ble_eq_true rfl) (Nat.le_of_ble_eq_true rfl) ?_
        exact r_iret X hret hlk d_Ro_keyAt_34

def f_Ro_keyAt (n : Nat) (v0 : Option Nat) (v1 : Int32) (σ : Hp) : Option (Int32 × Hp) :=
  if v1 < 0 then
  (
    some ((-1), σ))
  else
  (
    Option.bind (ld_I σ v0 7 3) fun x2 =>
    if v1 < x2 then
    (
      Option.bind (ld_R σ v0 7 0) fun x5 =>
      f_Ro_keyAt_21 n  n v1 0 x5 σ)
    else
    (
      some ((-1), σ)))
set_option maxRecDepth 100000 in
theorem c_Ro_keyAt {l : Launch} {DD : DT} (n : Nat) (v0 : Option Nat) (v1 : Int32) {σ0 σz : Hp} {rz : Int32} (hf : f_Ro_keyAt n v0 v1 σ0 = some (rz, σz)) : CT l DD y_Ro_keyAt prog_8_method_4_code 4 (some .int) rm_Ro_keyAt [tR v0, tI v1] σ0 (some (tI rz)) σz := by
  refine r_met (by decide) (Nat.le_of_ble_eq_true rfl) ?_
  intro p e s m args below meth c X hret hlk hnm
  unfold f_Ro_keyAt at hf
  refine r_iload_n X d_Ro_keyAt_0 rfl 1 rfl ?_
  refine r_if_lt (tgt := 12) X d_Ro_keyAt_1 (by decide) (fun hc1 => ?_) (fun hc1 => ?_)
  · have hf := (if_pos hc1).symm.trans hf
    refine r_iconst (v := -1) X d_Ro_keyAt_12 (by decide) ?_
    cases hf
    refine r_widen (kc2 := rm_Ro_keyAt.cells) (ks2 := rm_Ro_keyAt.slots) (Nat.le_of_ble_eq_true rfl) (Nat.le_of_ble_eq_true rfl) ?_
    exact r_iret X hret hlk d_Ro_keyAt_13
  · have hf := (if_neg hc1).symm.trans hf
    refine r_iload_n X d_Ro_keyAt_4 rfl 1 rfl ?_
    refine r_aload_n X d_Ro_keyAt_5 rfl 0 rfl ?_
    obtain ⟨x2, h3, hf⟩ := obind hf
    refine r_ld_I (ci := 7) (k := 3) X h3 (Nat.le_of_ble_eq_true rfl) (Nat.le_of_ble_eq_true rfl) (Or.inl rfl) rfl q150 d_Ro_keyAt_6 ?_
    refine r_icmp_lt (tgt := 14) X d_Ro_keyAt_9 (by decide) (fun hc4 => ?_) (fun hc4 => ?_)
    · have hf := (if_pos hc4).symm.trans hf
      refine r_iconst (v := 0) X d_Ro_keyAt_14 (by decide) ?_
      refine r_istore_n (lv' := [(0, tR v0), (1, tI v1), (2, tI 0)]) X [1, 2, 0] d_Ro_keyAt_15 rfl (Nat.le_of_ble_eq_true rfl) rfl ?_
      refine r_aload_n X d_Ro_keyAt_16 rfl 0 rfl ?_
      obtain ⟨x5, h6, hf⟩ := obind hf
      refine r_ld_R (ci := 7) (k := 0) X h6 (Nat.le_of_ble_eq_true rfl) (Nat.le_of_ble_eq_true rfl) rfl rfl q144 d_Ro_keyAt_17 ?_
      refine r_astore_n (lv' := [(1, tI v1), (2, tI 0), (3, tR x5)]) X [2, 3, 0] d_Ro_keyAt_20 rfl (Nat.le_of_ble_eq_true rfl) rfl ?_
      refine r_widen (kc2 := 0) (ks2 := 0) (Nat.le_of_ble_eq_true rfl) (Nat.le_of_ble_eq_true rfl) ?_
      refine r_sub [0, 1, 2] (lv' := [(1, tI v1), (2, tI 0), (3, tR x5)]) rfl ?_
      exact b_Ro_keyAt_21 X hret hlk hnm n   n v1 0 x5 σ0 hf
    · have hf := (if_neg hc4).symm.trans hf
      refine r_iconst (v := -1) X d_Ro_keyAt_12 (by decide) ?_
      cases hf
      refine r_widen (kc2 := rm_Ro_keyAt.cells) (ks2 := rm_Ro_keyAt.slots) (Nat.le_of_ble_eq_true rfl) (Nat.le_of_ble_eq_true rfl) ?_
      exact r_iret X hret hlk d_Ro_keyAt_13

def f_En_init (v0 : Option Nat) (v1 : Int32) (σ : Hp) : Option Hp :=
  Option.bind v0 fun x1 =>
  Option.bind (st_I σ v0 3 0 v1) fun σ3 =>
  some σ3
set_option maxRecDepth 100000 in
theorem c_En_init {l : Launch} {DD : DT} (v0 : Option Nat) (v1 : Int32) {σ0 σz : Hp} (hf : f_En_init v0 v1 σ0 = some σz) : CT l DD y_En_init prog_4_method_1_code 2 none rm_En_init [tR v0, tI v1] σ0 none σz := by
  refine r_met (by decide) (Nat.le_of_ble_eq_true rfl) ?_
  intro p e s m args below meth c X hret hlk hnm
  unfold f_En_init at hf
  refine r_aload_n X d_En_init_0 rfl 0 rfl ?_
  obtain ⟨x1, h2, hf⟩ := obind hf
  refine r_objInit X h2 q603 q26 q27 (Nat.le_of_ble_eq_true rfl) (Nat.le_of_ble_eq_true rfl) d_En_init_1 ?_
  refine r_aload_n X d_En_init_4 rfl 0 rfl ?_
  refine r_iload_n X d_En_init_5 rfl 1 rfl ?_
  obtain ⟨σ3, h4, hf⟩ := obind hf
  refine r_stF_I (ci := 3) (k := 0) X h4 (Nat.le_of_ble_eq_true rfl) (Nat.le_of_ble_eq_true rfl) rfl rfl rfl hnm rfl q604 d_En_init_6 ?_
  cases hf
  refine r_widen (kc2 := rm_En_init.cells) (ks2 := rm_En_init.slots) (Nat.le_of_ble_eq_true rfl) (Nat.le_of_ble_eq_true rfl) ?_
  exact r_vret X hret hlk d_En_init_9

