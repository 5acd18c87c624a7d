def f_No_init (v0 : Option Nat) (σ : Hp) : Option Hp :=
  Option.bind v0 fun x1 =>
  Option.bind (st_R (nw_A σ (3, (16 : Int32).toNatClampNeg, .inr (.inr (.inr (.inr (fun _ => none)))))) v0 6 0 (some (hp_N σ))) fun σ3 =>
  some σ3
set_option maxRecDepth 100000 in
theorem c_No_init {l : Launch} {DD : DT} (v0 : Option Nat) {σ0 σz : Hp} (hf : f_No_init v0 σ0 = some σz) : CT l DD y_No_init prog_7_method_1_code 1 none rm_No_init [tR v0] σ0 none σz := by
  refine r_met (by decide) (Nat.le_of_ble_eq_true rfl) ?_
  intro p e s m args below meth c X hret hlk hnm
  unfold f_No_init at hf
  refine r_aload_n X d_No_init_0 rfl 0 rfl ?_
  obtain ⟨x1, h2, hf⟩ := obind hf
  refine r_objInit X h2 q37 q26 q27 (Nat.le_of_ble_eq_true rfl) (Nat.le_of_ble_eq_true rfl) d_No_init_1 ?_
  refine r_aload_n X d_No_init_4 rfl 0 rfl ?_
  refine r_bipush (v := 16) X d_No_init_5 (by decide) ?_
  refine r_newa_E X 16 (by decide) (by decide) (Nat.le_of_ble_eq_true rfl) (Nat.le_of_ble_eq_true rfl) d_No_init_7 q38 ?_
  obtain ⟨σ3, h4, hf⟩ := obind hf
  refine r_stF_R (ci := 6) (k := 0) X h4 (Nat.le_of_ble_eq_true rfl) (Nat.le_of_ble_eq_true rfl) rfl rfl rfl hnm rfl q39 d_No_init_10 ?_
  cases hf
  refine r_widen (kc2 := rm_No_init.cells) (ks2 := rm_No_init.slots) (Nat.le_of_ble_eq_true rfl) (Nat.le_of_ble_eq_true rfl) ?_
  exact r_vret X hret hlk d_No_init_13

def f_Ta_init (v0 : Option Nat) (σ : Hp) : Option Hp :=
  Option.bind v0 fun x1 =>
  Option.bind (st_R (nw_A σ (3, (8 : Int32).toNatClampNeg, .inr (.inr (.inr (.inr (fun _ => none)))))) v0 9 0 (some (hp_N σ))) fun σ3 =>
  Option.bind (st_R (nw_A σ3 (0, (8 : Int32).toNatClampNeg, .inl (fun _ => 0))) v0 9 1 (some (hp_N σ3))) fun σ5 =>
  some σ5
set_option maxRecDepth 100000 in
theorem c_Ta_init {l : Launch} {DD : DT} (v0 : Option Nat) {σ0 σz : Hp} (hf : f_Ta_init v0 σ0 = some σz) : CT l DD y_Ta_init prog_10_method_1_code 1 none rm_Ta_init [tR v0] σ0 none σz := by
  refine r_met (by decide) (Nat.le_of_ble_eq_true rfl) ?_
  intro p e s m args below meth c X hret hlk hnm
  unfold f_Ta_init at hf
  refine r_aload_n X d_Ta_init_0 rfl 0 rfl ?_
  obtain ⟨x1, h2, hf⟩ := obind hf
  refine r_objInit X h2 q57 q26 q27 (Nat.le_of_ble_eq_true rfl) (Nat.le_of_ble_eq_true rfl) d_Ta_init_1 ?_
  refine r_aload_n X d_Ta_init_4 rfl 0 rfl ?_
  refine r_bipush (v := 8) X d_Ta_init_5 (by decide) ?_
  refine r_newa_E X 8 (by decide) (by decide) (Nat.le_of_ble_eq_true rfl) (Nat.le_of_ble_eq_true rfl) d_Ta_init_7 q58 ?_
  obtain ⟨σ3, h4, hf⟩ := obind hf
  refine r_stF_R (ci := 9) (k := 0) X h4 (Nat.le_of_ble_eq_true rfl) (Nat.le_of_ble_eq_true rfl) rfl rfl rfl hnm rfl q59 d_Ta_init_10 ?_
  refine r_aload_n X d_Ta_init_13 rfl 0 rfl ?_
  refine r_bipush (v := 8) X d_Ta_init_14 (by decide) ?_
  refine r_newa_I X 8 (by decide) (by decide) (Nat.le_of_ble_eq_true rfl) (Nat.le_of_ble_eq_true rfl) d_Ta_init_16 q72 ?_
  obtain ⟨σ5, h6, hf⟩ := obind hf
  refine r_stF_R (ci := 9) (k := 1) X h6 (Nat.le_of_ble_eq_true rfl) (Nat.le_of_ble_eq_true rfl) rfl rfl rfl hnm rfl q61 d_Ta_init_18 ?_
  cases hf
  refine r_widen (kc2 := rm_Ta_init.cells) (ks2 := rm_Ta_init.slots) (Nat.le_of_ble_eq_true rfl) (Nat.le_of_ble_eq_true rfl) ?_
  exact r_vret X hret hlk d_Ta_init_21

def f_Lo_init (v0 : Option Nat) (σ : Hp) : Option Hp :=
  Option.bind v0 fun x1 =>
  Option.bind (st_R (nw_A σ (0, (500 : Int32).toNatClampNeg, .inl (fun _ => 0))) v0 5 0 (some (hp_N σ))) fun σ3 =>
  Option.bind (st_R (nw_A σ3 (0, (500 : Int32).toNatClampNeg, .inl (fun _ => 0))) v0 5 1 (some (hp_N σ3))) fun σ5 =>
  Option.bind (st_R (nw_A σ5 (0, (500 : Int32).toNatClampNeg, .inl (fun _ => 0))) v0 5 2 (some (hp_N σ5))) fun σ7 =>
  some σ7
set_option maxRecDepth 100000 in
theorem c_Lo_init {l : Launch} {DD : DT} (v0 : Option Nat) {σ0 σz : Hp} (hf : f_Lo_init v0 σ0 = some σz) : CT l DD y_Lo_init prog_6_method_1_code 1 none rm_Lo_init [tR v0] σ0 none σz := by
  refine r_met (by decide) (Nat.le_of_ble_eq_true rfl) ?_
  intro p e s m args below meth c X hret hlk hnm
  unfold f_Lo_init at hf
  refine r_aload_n X d_Lo_init_0 rfl 0 rfl ?_
  obtain ⟨x1, h2, hf⟩ := obind hf
  refine r_objInit X h2 q78 q26 q27 (Nat.le_of_ble_eq_true rfl) (Nat.le_of_ble_eq_true rfl) d_Lo_init_1 ?_
  refine r_aload_n X d_Lo_init_4 rfl 0 rfl ?_
  refine r_sipush (v := 500) X d_Lo_init_5 (by decide) ?_
  refine r_newa_I X 500 (by decide) (by decide) (Nat.le_of_ble_eq_true rfl) (Nat.le_of_ble_eq_true rfl) d_Lo_init_8 q72 ?_
  obtain ⟨σ3, h4, hf⟩ := obind hf
  refine r_stF_R (ci := 5) (k := 0) X h4 (Nat.le_of_ble_eq_true rfl) (Nat.le_of_ble_eq_true rfl) rfl rfl rfl hnm rfl q79 d_Lo_init_10 ?_
  refine r_aload_n X d_Lo_init_13 rfl 0 rfl ?_
  refine r_sipush (v := 500) X d_Lo_init_14 (by decide) ?_
  refine r_newa_I X 500 (by decide) (by decide) (Nat.le_of_ble_eq_true rfl) (Nat.le_of_ble_eq_true rfl) d_Lo_init_17 q72 ?_
  obtain ⟨σ5, h6, hf⟩ := obind hf
  refine r_stF_R (ci := 5) (k := 1) X h6 (Nat.le_of_ble_eq_true rfl) (Nat.le_of_ble_eq_true rfl) rfl rfl rfl hnm rfl q80 d_Lo_init_19 ?_
  refine r_aload_n X d_Lo_init_22 rfl 0 rfl ?_
  refine r_sipush (v := 500) X d_Lo_init_23 (by decide) ?_
  refine r_newa_I X 500 (by decide) (by decide) (Nat.le_of_ble_eq_true rfl) (Nat.le_of_ble_eq_true rfl) d_Lo_init_26 q72 ?_
  obtain ⟨σ7, h8, hf⟩ := obind hf
  refine r_stF_R (ci := 5) (k := 2) X h8 (Nat.le_of_ble_eq_true rfl) (Nat.le_of_ble_eq_true rfl) rfl rfl rfl hnm rfl q81 d_Lo_init_28 ?_
  cases hf
  refine r_widen (kc2 := rm_Lo_init.cells) (ks2 := rm_Lo_init.slots) (Nat.le_of_ble_eq_true rfl) (Nat.le_of_ble_eq_true rfl) ?_
  exact r_vret X hret hlk d_Lo_init_31

def f_Li_init (v0 : Option Nat) (v1 : Int32) (v2 : Int32) (σ : Hp) : Option Hp :=
  Option.bind v0 fun x1 =>
  Option.bind (st_I σ v0 4 0 v1) fun σ3 =>
  Option.bind (st_I σ3 v0 4 1 v2) fun σ5 =>
  some σ5
set_option maxRecDepth 100000 in
theorem c_Li_init {l : Launch} {DD : DT} (v0 : Option Nat) (v1 : Int32) (v2 : Int32) {σ0 σz : Hp} (hf : f_Li_init v0 v1 v2 σ0 = some σz) : CT l DD y_Li_init prog_5_method_1_code 3 none rm_Li_init [tR v0, tI v1, tI v2] σ0 none σz := by
  refine r_met (by decide) (Nat.le_of_ble_eq_true rfl) ?_
  intro p e s m args below meth c X hret hlk hnm
  unfold f_Li_init at hf
  refine r_aload_n X d_Li_init_0 rfl 0 rfl ?_
  obtain ⟨x1, h2, hf⟩ := obind hf
  refine r_objInit X h2 q103 q26 q27 (Nat.le_of_ble_eq_true rfl) (Nat.le_of_ble_eq_true rfl) d_Li_init_1 ?_
  refine r_aload_n X d_Li_init_4 rfl 0 rfl ?_
  refine r_iload_n X d_Li_init_5 rfl 1 rfl ?_
  obtain ⟨σ3, h4, hf⟩ := obind hf
  refine r_stF_I (ci := 4) (k := 0) X h4 (Nat.le_of_ble_eq_true rfl) (Nat.le_of_ble_eq_true rfl) rfl rfl rfl hnm rfl q104 d_Li_init_6 ?_
  refine r_aload_n X d_Li_init_9 rfl 0 rfl ?_
  refine r_iload_n X d_Li_init_10 rfl 2 rfl ?_
  obtain ⟨σ5, h6, hf⟩ := obind hf
  refine r_stF_I (ci := 4) (k := 1) X h6 (Nat.le_of_ble_eq_true rfl) (Nat.le_of_ble_eq_true rfl) rfl rfl rfl hnm rfl q105 d_Li_init_11 ?_
  cases hf
  refine r_widen (kc2 := rm_Li_init.cells) (ks2 := rm_Li_init.slots) (Nat.le_of_ble_eq_true rfl) (Nat.le_of_ble_eq_true rfl) ?_
  exact r_vret X hret hlk d_Li_init_14

def f_Cl_init (v0 : Option Nat) (v1 : Int32) (σ : Hp) : Option Hp :=
  Option.bind v0 fun x1 =>
  Option.bind (st_Z σ v0 1 8 1) fun σ3 =>
  Option.bind (st_I σ3 v0 1 0 (10 * v1)) fun σ5 =>
  Option.bind (st_I σ5 v0 1 1 (imax_ 1 (v1 / 16))) fun σ7 =>
  Option.bind (ld_I σ7 v0 1 1) fun x9 =>
  Option.bind (st_I σ7 v0 1 7 x9) fun σ11 =>
  some σ11
set_option maxRecDepth 100000 in
theorem c_Cl_init {l : Launch} {DD : DT} (v0 : Option Nat) (v1 : Int32) {σ0 σz : Hp} (hf : f_Cl_init v0 v1 σ0 = some σz) : CT l DD y_Cl_init prog_2_method_1_code 2 none rm_Cl_init [tR v0, tI v1] σ0 none σz := by
  refine r_met (by decide) (Nat.le_of_ble_eq_true rfl) ?_
  intro p e s m args below meth c X hret hlk hnm
  unfold f_Cl_init at hf
  refine r_aload_n X d_Cl_init_0 rfl 0 rfl ?_
  obtain ⟨x1, h2, hf⟩ := obind hf
  refine r_objInit X h2 q188 q26 q27 (Nat.le_of_ble_eq_true rfl) (Nat.le_of_ble_eq_true rfl) d_Cl_init_1 ?_
  refine r_aload_n X d_Cl_init_4 rfl 0 rfl ?_
  refine r_iconst (v := 1) X d_Cl_init_5 (by decide) ?_
  obtain ⟨σ3, h4, hf⟩ := obind hf
  refine r_st_Z (ci := 1) (k := 8) X h4 (Nat.le_of_ble_eq_true rfl) (Nat.le_of_ble_eq_true rfl) rfl rfl rfl q200 d_Cl_init_6 ?_
  refine r_aload_n X d_Cl_init_9 rfl 0 rfl ?_
  refine r_bipush (v := 10) X d_Cl_init_10 (by decide) ?_
  refine r_iload_n X d_Cl_init_12 rfl 1 rfl ?_
  refine r_imul X d_Cl_init_13 ?_
  obtain ⟨σ5, h6, hf⟩ := obind hf
  refine r_stF_I (ci := 1) (k := 0) X h6 (Nat.le_of_ble_eq_true rfl) (Nat.le_of_ble_eq_true rfl) rfl rfl rfl hnm rfl q190 d_Cl_init_14 ?_
  refine r_aload_n X d_Cl_init_17 rfl 0 rfl ?_
  refine r_iconst (v := 1) X d_Cl_init_18 (by decide) ?_
  refine r_iload_n X d_Cl_init_19 rfl 1 rfl ?_
  refine r_bipush (v := 16) X d_Cl_init_20 (by decide) ?_
  refine r_idiv X d_Cl_init_22 (by decide) ?_
  refine r_mmax X q189 q96 q5 q97 (Nat.le_of_ble_eq_true rfl) (Nat.le_of_ble_eq_true rfl) (Nat.le_of_ble_eq_true rfl) (Nat.le_of_ble_eq_true rfl) d_Cl_init_23 ?_
  obtain ⟨σ7, h8, hf⟩ := obind hf
  refine r_stF_I (ci := 1) (k := 1) X h8 (Nat.le_of_ble_eq_true rfl) (Nat.le_of_ble_eq_true rfl) rfl rfl rfl hnm rfl q191 d_Cl_init_26 ?_
  refine r_aload_n X d_Cl_init_29 rfl 0 rfl ?_
  refine r_aload_n X d_Cl_init_30 rfl 0 rfl ?_
  obtain ⟨x9, h10, hf⟩ := obind hf
  refine r_ld_I (ci := 1) (k := 1) X h10 (Nat.le_of_ble_eq_true rfl) (Nat.le_of_ble_eq_true rfl) (Or.inl rfl) rfl q191 d_Cl_init_31 ?_
  obtain ⟨σ11, h12, hf⟩ := obind hf
  refine r_st_I (ci := 1) (k := 7) X h12 (Nat.le_of_ble_eq_true rfl) (Nat.le_of_ble_eq_true rfl) rfl rfl rfl q199 d_Cl_init_34 ?_
  cases hf
  refine r_widen (kc2 := rm_Cl_init.cells) (ks2 := rm_Cl_init.slots) (Nat.le_of_ble_eq_true rfl) (Nat.le_of_ble_eq_true rfl) ?_
  exact r_vret X hret hlk d_Cl_init_37

def f_Li_isOver (v0 : Option Nat) (v1 : Option Nat) (σ : Hp) : Option (Int32 × Hp) :=
  Option.bind (ld_L σ v0 4 2) fun x1 =>
  Option.bind (ld_L σ v1 3 5) fun x3 =>
  if (lg_cmp x1 x3) < 0 then
  (
    some (0, σ))
  else
  (
    some (1, σ))
set_option maxRecDepth 100000 in
theorem c_Li_isOver {l : Launch} {DD : DT} (v0 : Option Nat) (v1 : Option Nat) {σ0 σz : Hp} {rz : Int32} (hf : f_Li_isOver v0 v1 σ0 = some (rz, σz)) : CT l DD y_Li_isOver prog_5_method_4_code 2 (some .boolean) rm_Li_isOver [tR v0, tR v1] σ0 (some (tI rz)) σz := by
  refine r_met (by decide) (Nat.le_of_ble_eq_true rfl) ?_
  intro p e s m args below meth c X hret hlk hnm
  unfold f_Li_isOver at hf
  refine r_aload_n X d_Li_isOver_0 rfl 0 rfl ?_
  obtain ⟨x1, h2, hf⟩ := obind hf
  refine r_ld_L (ci := 4) (k := 2) X h2 (Nat.le_of_ble_eq_true rfl) (Nat.le_of_ble_eq_true rfl) rfl rfl q106 d_Li_isOver_1 ?_
  refine r_aload_n X d_Li_isOver_4 rfl 1 rfl ?_
  obtain ⟨x3, h4, hf⟩ := obind hf
  refine r_ld_L (ci := 3) (k := 5) X h4 (Nat.le_of_ble_eq_true rfl) (Nat.le_of_ble_eq_true rfl) rfl rfl q615 d_Li_isOver_5 ?_
  refine r_lcmp X d_Li_isOver_8 ?_
  refine r_if_lt (tgt := 16) X d_Li_isOver_9 (by decide) (fun hc5 => ?_) (fun hc5 => ?_)
  · have hf := (if_pos hc5).symm.trans hf
    refine r_iconst (v := 0) X d_Li_isOver_16 (by decide) ?_
    cases hf
    refine r_widen (kc2 := rm_Li_isOver.cells) (ks2 := rm_Li_isOver.slots) (Nat.le_of_ble_eq_true rfl) (Nat.le_of_ble_eq_true rfl) ?_
    exact r_zret X hret hlk (by decide) d_Li_isOver_17
  · have hf := (if_neg hc5).symm.trans hf
    refine r_iconst (v := 1) X d_Li_isOver_12 (by decide) ?_
    refine r_goto (tgt := 17) X d_Li_isOver_13 (by decide) ?_
    cases hf
    refine r_widen (kc2 := rm_Li_isOver.cells) (ks2 := rm_Li_isOver.slots) (Nat.le_of_ble_eq_true rfl) (Nat.le_of_ble_eq_true rfl) ?_
    exact r_zret X hret hlk (by decide) d_Li_isOver_17

def f_Li_prolong (v0 : Option Nat) (v1 : Option Nat) (σ : Hp) : Option Hp :=
  Option.bind (ld_I σ v1 3 6) fun x1 =>
  if x1 = 0 then
  (
    Option.bind (ld_L σ v1 3 4) fun x4 =>
    Option.bind (st_L σ v1 3 5 x4) fun σ6 =>
    some σ6)
  else
  (
    Option.bind (ld_L σ v1 3 4) fun x8 =>
    Option.bind (ld_L σ v0 4 2) fun x10 =>
    Option.bind (ld_I σ v0 4 1) fun x12 =>
    Option.bind (st_L σ v1 3 5 (lmin_ x8 (x10 + (Int32.toInt64 x12)))) fun σ14 =>
    some σ14)
set_option maxRecDepth 100000 in
theorem c_Li_prolong {l : Launch} {DD : DT} (v0 : Option Nat) (v1 : Option Nat) {σ0 σz : Hp} (hf : f_Li_prolong v0 v1 σ0 = some σz) : CT l DD y_Li_prolong prog_5_method_3_code 2 none rm_Li_prolong [tR v0, tR v1] σ0 none σz := by
  refine r_met (by decide) (Nat.le_of_ble_eq_true rfl) ?_
  intro p e s m args below meth c X hret hlk hnm
  unfold f_Li_prolong at hf
  refine r_aload_n X d_Li_prolong_0 rfl 1 rfl ?_
  refine r_aload_n X d_Li_prolong_1 rfl 1 rfl ?_
  obtain ⟨x1, h2, hf⟩ := obind hf
  refine r_ld_I (ci := 3) (k := 6) X h2 (Nat.le_of_ble_eq_true rfl) (Nat.le_of_ble_eq_true rfl) (Or.inr rfl) rfl q617 d_Li_prolong_2 ?_
  refine r_if_eq (tgt := 28) X d_Li_prolong_5 (by decide) (fun hc3 => ?_) (fun hc3 => ?_)
  · have hf := (if_pos hc3).symm.trans hf
    refine r_aload_n X d_Li_prolong_28 rfl 1 rfl ?_
    obtain ⟨x4, h5, hf⟩ := obind hf
    refine r_ld_L (ci := 3) (k := 4) X h5 (Nat.le_of_ble_eq_true rfl) (Nat.le_of_ble_eq_true rfl) rfl rfl q614 d_Li_prolong_29 ?_
    obtain ⟨σ6, h7, hf⟩ := obind hf
    refine r_st_L (ci := 3) (k := 5) X h7 (Nat.le_of_ble_eq_true rfl) (Nat.le_of_ble_eq_true rfl) rfl rfl rfl q615 d_Li_prolong_32 ?_
    cases hf
    refine r_widen (kc2 := rm_Li_prolong.cells) (ks2 := rm_Li_prolong.slots) (Nat.le_of_ble_eq_true rfl) (Nat.le_of_ble_eq_true rfl) ?_
    exact r_vret X hret hlk d_Li_prolong_35
  · have hf := (if_neg hc3).symm.trans hf
    refine r_aload_n X d_Li_prolong_8 rfl 1 rfl ?_
    obtain ⟨x8, h9, hf⟩ := obind hf
    refine r_ld_L (ci := 3) (k := 4) X h9 (Nat.le_of_ble_eq_true rfl) (Nat.le_of_ble_eq_true rfl) rfl rfl q614 d_Li_prolong_9 ?_
    refine r_aload_n X d_Li_prolong_12 rfl 0 rfl ?_
    obtain ⟨x10, h11, hf⟩ := obind hf
    refine r_ld_L (ci := 4) (k := 2) X h11 (Nat.le_of_ble_eq_true rfl) (Nat.le_of_ble_eq_true rfl) rfl rfl q106 d_Li_prolong_13 ?_
    refine r_aload_n X d_Li_prolong_16 rfl 0 rfl ?_
    obtain ⟨x12, h13, hf⟩ := obind hf
    refine r_ld_I (ci := 4) (k := 1) X h13 (Nat.le_of_ble_eq_true rfl) (Nat.le_of_ble_eq_true rfl) (Or.inl rfl) rfl q105 d_Li_prolong_17 ?_
    refine r_i2l X d_Li_prolong_20 ?_
    refine r_ladd X d_Li_prolong_21 ?_
    refine r_mminL X q286 q287 q5 q288 (Nat.le_of_ble_eq_true rfl) (Nat.le_of_ble_eq_true rfl) (Nat.le_of_ble_eq_true rfl) (Nat.le_of_ble_eq_true rfl) d_Li_prolong_22 ?_
    refine r_goto (tgt := 32) X d_Li_prolong_25 (by decide) ?_
    obtain ⟨σ14, h15, hf⟩ := obind hf
    refine r_st_L (ci := 3) (k := 5) X h15 (Nat.le_of_ble_eq_true rfl) (Nat.le_of_ble_eq_true rfl) rfl rfl rfl q615 d_Li_prolong_32 ?_
    cases hf
    refine r_widen (kc2 := rm_Li_prolong.cells) (ks2 := rm_Li_prolong.slots) (Nat.le_of_ble_eq_true rfl) (Nat.le_of_ble_eq_true rfl) ?_
    exact r_vret X hret hlk d_Li_prolong_35

def f_No_add (v0 : Option Nat) (v1 : Option Nat) (σ : Hp) : Option Hp :=
  Option.bind (ld_I σ v0 6 1) fun x1 =>
  if 16 ≤ x1 then
  (
    Option.bind (ld_I σ v0 6 2) fun x4 =>
    Option.bind (st_I σ v0 6 2 (x4 + 1)) fun σ6 =>
    some σ6)
  else
  (
    Option.bind (ld_R σ v0 6 0) fun x8 =>
    Option.bind (ld_I σ v0 6 1) fun x10 =>
    Option.bind (as_R σ 3 3 x8 x10 v1) fun σ12 =>
    Option.bind (ld_I σ12 v0 6 1) fun x14 =>
    Option.bind (st_I σ12 v0 6 1 (x14 + 1)) fun σ16 =>
    some σ16)
set_option maxRecDepth 100000 in
theorem c_No_add {l : Launch} {DD : DT} (v0 : Option Nat) (v1 : Option Nat) {σ0 σz : Hp} (hf : f_No_add v0 v1 σ0 = some σz) : CT l DD y_No_add prog_7_method_2_code 2 none rm_No_add [tR v0, tR v1] σ0 none σz := by
  refine r_met (by decide) (Nat.le_of_ble_eq_true rfl) ?_
  intro p e s m args below meth c X hret hlk hnm
  unfold f_No_add at hf
  refine r_aload_n X d_No_add_0 rfl 0 rfl ?_
  obtain ⟨x1, h2, hf⟩ := obind hf
  refine r_ld_I (ci := 6) (k := 1) X h2 (Nat.le_of_ble_eq_true rfl) (Nat.le_of_ble_eq_true rfl) (Or.inl rfl) rfl q41 d_No_add_1 ?_
  refine r_bipush (v := 16) X d_No_add_4 (by decide) ?_
  refine r_icmp_ge (tgt := 32) X d_No_add_6 (by decide) (fun hc3 => ?_) (fun hc3 => ?_)
  · have hf := (if_pos hc3).symm.trans hf
    refine r_aload_n X d_No_add_32 rfl 0 rfl ?_
    refine r_dup X d_No_add_33 rfl ?_
    obtain ⟨x4, h5, hf⟩ := obind hf
    refine r_ld_I (ci := 6) (k := 2) X h5 (Nat.le_of_ble_eq_true rfl) (Nat.le_of_ble_eq_true rfl) (Or.inl rfl) rfl q43 d_No_add_34 ?_
    refine r_iconst (v := 1) X d_No_add_37 (by decide) ?_
    refine r_iadd X d_No_add_38 ?_
    obtain ⟨σ6, h7, hf⟩ := obind hf
    refine r_st_I (ci := 6) (k := 2) X h7 (Nat.le_of_ble_eq_true rfl) (Nat.le_of_ble_eq_true rfl) rfl rfl rfl q43 d_No_add_39 ?_
    cases hf
    refine r_widen (kc2 := rm_No_add.cells) (ks2 := rm_No_add.slots) (Nat.le_of_ble_eq_true rfl) (Nat.le_of_ble_eq_true rfl) ?_
    exact r_vret X hret hlk d_No_add_42
  · have hf := (if_neg hc3).symm.trans hf
    refine r_aload_n X d_No_add_9 rfl 0 rfl ?_
    obtain ⟨x8, h9, hf⟩ := obind hf
    refine r_ld_R (ci := 6) (k := 0) X h9 (Nat.le_of_ble_eq_true rfl) (Nat.le_of_ble_eq_true rfl) rfl rfl q39 d_No_add_10 ?_
    refine r_aload_n X d_No_add_13 rfl 0 rfl ?_
    obtain ⟨x10, h11, hf⟩ := obind hf
    refine r_ld_I (ci := 6) (k := 1) X h11 (Nat.le_of_ble_eq_true rfl) (Nat.le_of_ble_eq_true rfl) (Or.inl rfl) rfl q41 d_No_add_14 ?_
    refine r_aload_n X d_No_add_17 rfl 1 rfl ?_
    obtain ⟨σ12, h13, hf⟩ := obind hf
    refine r_as_E X h13 d_No_add_18 ?_
    refine r_aload_n X d_No_add_19 rfl 0 rfl ?_
    refine r_dup X d_No_add_20 rfl ?_
    obtain ⟨x14, h15, hf⟩ := obind hf
    refine r_ld_I (ci := 6) (k := 1) X h15 (Nat.le_of_ble_eq_true rfl) (Nat.le_of_ble_eq_true rfl) (Or.inl rfl) rfl q41 d_No_add_21 ?_
    refine r_iconst (v := 1) X d_No_add_24 (by decide) ?_
    refine r_iadd X d_No_add_25 ?_
    obtain ⟨σ16, h17, hf⟩ := obind hf
    refine r_st_I (ci := 6) (k := 1) X h17 (Nat.le_of_ble_eq_true rfl) (Nat.le_of_ble_eq_true rfl) rfl rfl rfl q41 d_No_add_26 ?_
    refine r_goto (tgt := 42) X d_No_add_29 (by decide) ?_
    cases hf
    refine r_widen (kc2 := rm_No_add.cells) (ks2 := rm_No_add.slots) (Nat.le_of_ble_eq_true rfl) (Nat.le_of_ble_eq_true rfl) ?_
    exact r_vret X hret hlk d_No_add_42

def f_Lo_add (v0 : Option Nat) (v1 : Option Nat) (v2 : Int32) (σ : Hp) : Option Hp :=
  Option.bind (ld_I σ v0 5 3) fun x1 =>
  if 500 ≤ x1 then
  (
    some σ)
  else
  (
    Option.bind (ld_R σ v0 5 0) fun x4 =>
    Option.bind (ld_I σ v0 5 3) fun x6 =>
    Option.bind (ld_I σ v1 3 0) fun x8 =>
    Option.bind (as_I σ 0 x4 x6 x8) fun σ10 =>
    Option.bind (ld_R σ10 v0 5 1) fun x12 =>
    Option.bind (ld_I σ10 v0 5 3) fun x14 =>
    Option.bind (ld_I σ10 v1 3 1) fun x16 =>
    Option.bind (as_I σ10 0 x12 x14 x16) fun σ18 =>
    Option.bind (ld_R σ18 v0 5 2) fun x20 =>
    Option.bind (ld_I σ18 v0 5 3) fun x22 =>
    Option.bind (as_I σ18 0 x20 x22 v2) fun σ24 =>
    Option.bind (ld_I σ24 v0 5 3) fun x26 =>
    Option.bind (st_I σ24 v0 5 3 (x26 + 1)) fun σ28 =>
    some σ28)
set_option maxRecDepth 100000 in
theorem c_Lo_add {l : Launch} {DD : DT} (v0 : Option Nat) (v1 : Option Nat) (v2 : Int32) {σ0 σz : Hp} (hf : f_Lo_add v0 v1 v2 σ0 = some σz) : CT l DD y_Lo_add prog_6_method_2_code 3 none rm_Lo_add [tR v0, tR v1, tI v2] σ0 none σz := by
  refine r_met (by decide) (Nat.le_of_ble_eq_true rfl) ?_
  intro p e s m args below meth c X hret hlk hnm
  unfold f_Lo_add at hf
  refine r_aload_n X d_Lo_add_0 rfl 0 rfl ?_
  obtain ⟨x1, h2, hf⟩ := obind hf
  refine r_ld_I (ci := 5) (k := 3) X h2 (Nat.le_of_ble_eq_true rfl) (Nat.le_of_ble_eq_true rfl) (Or.inl rfl) rfl q82 d_Lo_add_1 ?_
  refine r_sipush (v := 500) X d_Lo_add_4 (by decide) ?_
  refine r_icmp_ge (tgt := 56) X d_Lo_add_7 (by decide) (fun hc3 => ?_) (fun hc3 => ?_)
  · have hf := (if_pos hc3).symm.trans hf
    cases hf
    refine r_widen (kc2 := rm_Lo_add.cells) (ks2 := rm_Lo_add.slots) (Nat.le_of_ble_eq_true rfl) (Nat.le_of_ble_eq_true rfl) ?_
    exact r_vret X hret hlk d_Lo_add_56
  · have hf := (if_neg hc3).symm.trans hf
    refine r_aload_n X d_Lo_add_10 rfl 0 rfl ?_
    obtain ⟨x4, h5, hf⟩ := obind hf
    refine r_ld_R (ci := 5) (k := 0) X h5 (Nat.le_of_ble_eq_true rfl) (Nat.le_of_ble_eq_true rfl) rfl rfl q79 d_Lo_add_11 ?_
    refine r_aload_n X d_Lo_add_14 rfl 0 rfl ?_
    obtain ⟨x6, h7, hf⟩ := obind hf
    refine r_ld_I (ci := 5) (k := 3) X h7 (Nat.le_of_ble_eq_true rfl) (Nat.le_of_ble_eq_true rfl) (Or.inl rfl) rfl q82 d_Lo_add_15 ?_
    refine r_aload_n X d_Lo_add_18 rfl 1 rfl ?_
    obtain ⟨x8, h9, hf⟩ := obind hf
    refine r_ld_I (ci := 3) (k := 0) X h9 (Nat.le_of_ble_eq_true rfl) (Nat.le_of_ble_eq_true rfl) (Or.inl rfl) rfl q605 d_Lo_add_19 ?_
    obtain ⟨σ10, h11, hf⟩ := obind hf
    refine r_as_I X h11 d_Lo_add_22 ?_
    refine r_aload_n X d_Lo_add_23 rfl 0 rfl ?_
    obtain ⟨x12, h13, hf⟩ := obind hf
    refine r_ld_R (ci := 5) (k := 1) X h13 (Nat.le_of_ble_eq_true rfl) (Nat.le_of_ble_eq_true rfl) rfl rfl q80 d_Lo_add_24 ?_
    refine r_aload_n X d_Lo_add_27 rfl 0 rfl ?_
    obtain ⟨x14, h15, hf⟩ := obind hf
    refine r_ld_I (ci := 5) (k := 3) X h15 (Nat.le_of_ble_eq_true rfl) (Nat.le_of_ble_eq_true rfl) (Or.inl rfl) rfl q82 d_Lo_add_28 ?_
    refine r_aload_n X d_Lo_add_31 rfl 1 rfl ?_
    obtain ⟨x16, h17, hf⟩ := obind hf
    refine r_ld_I (ci := 3) (k := 1) X h17 (Nat.le_of_ble_eq_true rfl) (Nat.le_of_ble_eq_true rfl) (Or.inl rfl) rfl q608 d_Lo_add_32 ?_
    obtain ⟨σ18, h19, hf⟩ := obind hf
    refine r_as_I X h19 d_Lo_add_35 ?_
    refine r_aload_n X d_Lo_add_36 rfl 0 rfl ?_
    obtain ⟨x20, h21, hf⟩ := obind hf
    refine r_ld_R (ci := 5) (k := 2) X h21 (Nat.le_of_ble_eq_true rfl) (Nat.le_of_ble_eq_true rfl) rfl rfl q81 d_Lo_add_37 ?_
    refine r_aload_n X d_Lo_add_40 rfl 0 rfl ?_
    obtain ⟨x22, h23, hf⟩ := obind hf
    refine r_ld_I (ci := 5) (k := 3) X h23 (Nat.le_of_ble_eq_true rfl) (Nat.le_of_ble_eq_true rfl) (Or.inl rfl) rfl q82 d_Lo_add_41 ?_
    refine r_iload_n X d_Lo_add_44 rfl 2 rfl ?_
    obtain ⟨σ24, h25, hf⟩ := obind hf
    refine r_as_I X h25 d_Lo_add_45 ?_
    refine r_aload_n X d_Lo_add_46 rfl 0 rfl ?_
    refine r_dup X d_Lo_add_47 rfl ?_
    obtain ⟨x26, h27, hf⟩ := obind hf
    refine r_ld_I (ci := 5) (k := 3) X h27 (Nat.le_of_ble_eq_true rfl) (Nat.le_of_ble_eq_true rfl) (Or.inl rfl) rfl q82 d_Lo_add_48 ?_
    refine r_iconst (v := 1) X d_Lo_add_51 (by decide) ?_
    refine r_iadd X d_Lo_add_52 ?_
    obtain ⟨σ28, h29, hf⟩ := obind hf
    refine r_st_I (ci := 5) (k := 3) X h29 (Nat.le_of_ble_eq_true rfl) (Nat.le_of_ble_eq_true rfl) rfl rfl rfl q82 d_Lo_add_53 ?_
    cases hf
    refine r_widen (kc2 := rm_Lo_add.cells) (ks2 := rm_Lo_add.slots) (Nat.le_of_ble_eq_true rfl) (Nat.le_of_ble_eq_true rfl) ?_
    exact r_vret X hret hlk d_Lo_add_56

def f_Ta_addUntilFull_39  (v0 : Option Nat) (σ : Hp) : Option (Int32 × Hp) :=
  Option.bind (ld_I σ v0 9 2) fun x4 =>
  if x4 < 8 then
  (
    some (0, σ))
  else
  (
    some (1, σ))
set_option maxRecDepth 100000 in
theorem b_Ta_addUntilFull_39 {p : Program} {l : Launch} {e : Env} {s : State} {m : MethodId} {args : Array Value} {below : List Frame} {meth : Method} {c : Code} {DD : DT} {σ0 σz : Hp} {rz : Int32} (X : CX p s m args c prog_10_method_2_code 3 (dm σ0) DD y_Ta_addUntilFull.cls) (hret : meth.sig.returnType = some .boolean) (hlk : meth.locks = false) (hnm : meth.name = y_Ta_addUntilFull.name)   (v0 : Option Nat) (σ : Hp) (hf : f_Ta_addUntilFull_39  v0 σ = some (rz, σz)) : GG p l e rm_Ta_addUntilFull s m args below meth c 3 (dm σ0) DD (MQ below (Post DD σ0 (some (tI rz)) σz) args s rm_Ta_addUntilFull.cells rm_Ta_addUntilFull.slots (dm σ0)) 0 0 σ 39 [(0, tR v0)] [] := by
  unfold f_Ta_addUntilFull_39 at hf
  refine r_aload_n X d_Ta_addUntilFull_39 rfl 0 rfl ?_
  obtain ⟨x4, h5, hf⟩ := obind hf
  refine r_ld_I (ci := 9) (k := 2) X h5 (Nat.le_of_ble_eq_true rfl) (Nat.le_of_ble_eq_true rfl) (Or.inl rfl) rfl q63 d_Ta_addUntilFull_40 ?_
  refine r_bipush (v := 8) X d_Ta_addUntilFull_43 (by decide) ?_
  refine r_icmp_lt (tgt := 52) X d_Ta_addUntilFull_45 (by decide) (fun hc6 => ?_) (fun hc6 => ?_)
  · have hf := (if_pos hc6).symm.trans hf
    refine r_iconst (v := 0) X d_Ta_addUntilFull_52 (by decide) ?_
    cases hf
    refine r_widen (kc2 := rm_Ta_addUntilFull.cells) (ks2 := rm_Ta_addUntilFull.slots) (Nat.le_of_ble_eq_true rfl) (Nat.le_of_ble_eq_true rfl) ?_
    exact r_zret X hret hlk (by decide) d_Ta_addUntilFull_53
  · have hf := (if_neg hc6).symm.trans hf
    refine r_iconst (v := 1) X d_Ta_addUntilFull_48 (by decide) ?_
    refine r_goto (tgt := 53) X d_Ta_addUntilFull_49 (by decide) ?_
    cases hf
    refine r_widen (kc2 := rm_Ta_addUntilFull.cells) (ks2 := rm_Ta_addUntilFull.slots) (Nat.le_of_ble_eq_true rfl) (Nat.le_of_ble_eq_true rfl) ?_
    exact r_zret X hret hlk (by decide) d_Ta_addUntilFull_53

def f_Ta_addUntilFull (v0 : Option Nat) (v1 : Int32) (v2 : Option Nat) (σ : Hp) : Option (Int32 × Hp) :=
  Option.bind (ld_I σ v0 9 2) fun x1 =>
  if 8 ≤ x1 then
  (
    f_Ta_addUntilFull_39  v0 σ)
  else
  (
    Option.bind (ld_R σ v0 9 0) fun x7 =>
    Option.bind (ld_I σ v0 9 2) fun x9 =>
    Option.bind (as_R σ 3 3 x7 x9 v2) fun σ11 =>
    Option.bind (ld_R σ11 v0 9 1) fun x13 =>
    Option.bind (ld_I σ11 v0 9 2) fun x15 =>
    Option.bind (as_I σ11 0 x13 x15 v1) fun σ17 =>
    Option.bind (ld_I σ17 v0 9 2) fun x19 =>
    Option.bind (st_I σ17 v0 9 2 (x19 + 1)) fun σ21 =>
    f_Ta_addUntilFull_39  v0 σ21)
set_option maxRecDepth 100000 in
theorem c_Ta_addUntilFull {l : Launch} {DD : DT} (v0 : Option Nat) (v1 : Int32) (v2 : Option Nat) {σ0 σz : Hp} {rz : Int32} (hf : f_Ta_addUntilFull v0 v1 v2 σ0 = some (rz, σz)) : CT l DD y_Ta_addUntilFull prog_10_method_2_code 3 (some .boolean) rm_Ta_addUntilFull [tR v0, tI v1, tR v2] σ0 (some (tI rz)) σz := by
  refine r_met (by decide) (Nat.le_of_ble_eq_true rfl) ?_
  intro p e s m args below meth c X hret hlk hnm
  unfold f_Ta_addUntilFull at hf
  refine r_aload_n X d_Ta_addUntilFull_0 rfl 0 rfl ?_
  obtain ⟨x1, h2, hf⟩ := obind hf
  refine r_ld_I (ci := 9) (k := 2) X h2 (Nat.le_of_ble_eq_true rfl) (Nat.le_of_ble_eq_true rfl) (Or.inl rfl) rfl q63 d_Ta_addUntilFull_1 ?_
  refine r_bipush (v := 8) X d_Ta_addUntilFull_4 (by decide) ?_
  refine r_icmp_ge (tgt := 39) X d_Ta_addUntilFull_6 (by decide) (fun hc3 => ?_) (fun hc3 => ?_)
  · have hf := (if_pos hc3).symm.trans hf
    refine r_widen (kc2 := 0) (ks2 := 0) (Nat.le_of_ble_eq_true rfl) (Nat.le_of_ble_eq_true rfl) ?_
    refine r_sub [0] (lv' := [(0, tR v0)]) rfl ?_
    exact b_Ta_addUntilFull_39 X hret hlk hnm   v0 σ0 hf
  · have hf := (if_neg hc3).symm.trans hf
    refine r_aload_n X d_Ta_addUntilFull_9 rfl 0 rfl ?_
    obtain ⟨x7, h8, hf⟩ := obind hf
    refine r_ld_R (ci := 9) (k := 0) X h8 (Nat.le_of_ble_eq_true rfl) (Nat.le_of_ble_eq_true rfl) rfl rfl q59 d_Ta_addUntilFull_10 ?_
    refine r_aload_n X d_Ta_addUntilFull_13 rfl 0 rfl ?_
    obtain ⟨x9, h10, hf⟩ := obind hf
    refine r_ld_I (ci := 9) (k := 2) X h10 (Nat.le_of_ble_eq_true rfl) (Nat.le_of_ble_eq_true rfl) (Or.inl rfl) rfl q63 d_Ta_addUntilFull_14 ?_
    refine r_aload_n X d_Ta_addUntilFull_17 rfl 2 rfl ?_
    obtain ⟨σ11, h12, hf⟩ := obind hf
    refine r_as_E X h12 d_Ta_addUntilFull_18 ?_
    refine r_aload_n X d_Ta_addUntilFull_19 rfl 0 rfl ?_
    obtain ⟨x13, h14, hf⟩ := obind hf
    refine r_ld_R (ci := 9) (k := 1) X h14 (Nat.le_of_ble_eq_true rfl) (Nat.le_of_ble_eq_true rfl) rfl rfl q61 d_Ta_addUntilFull_20 ?_
    refine r_aload_n X d_Ta_addUntilFull_23 rfl 0 rfl ?_
    obtain ⟨x15, h16, hf⟩ := obind hf
    refine r_ld_I (ci := 9) (k := 2) X h16 (Nat.le_of_ble_eq_true rfl) (Nat.le_of_ble_eq_true rfl) (Or.inl rfl) rfl q63 d_Ta_addUntilFull_24 ?_
    refine r_iload_n X d_Ta_addUntilFull_27 rfl 1 rfl ?_
    obtain ⟨σ17, h18, hf⟩ := obind hf
    refine r_as_I X h18 d_Ta_addUntilFull_28 ?_
    refine r_aload_n X d_Ta_addUntilFull_29 rfl 0 rfl ?_
    refine r_dup X d_Ta_addUntilFull_30 rfl ?_
    obtain ⟨x19, h20, hf⟩ := obind hf
    refine r_ld_I (ci := 9) (k := 2) X h20 (Nat.le_of_ble_eq_true rfl) (Nat.le_of_ble_eq_true rfl) (Or.inl rfl) rfl q63 d_Ta_addUntilFull_31 ?_
    refine r_iconst (v := 1) X d_Ta_addUntilFull_34 (by decide) ?_
    refine r_iadd X d_Ta_addUntilFull_35 ?_
    obtain ⟨σ21, h22, hf⟩ := obind hf
    refine r_st_I (ci := 9) (k := 2) X h22 (Nat.le_of_ble_eq_true rfl) (Nat.le_of_ble_eq_true rfl) rfl rfl rfl q63 d_Ta_addUntilFull_36 ?_
    refine r_widen (kc2 := 0) (ks2 := 0) (Nat.le_of_ble_eq_true rfl) (Nat.le_of_ble_eq_true rfl) ?_
    refine r_sub [0] (lv' := [(0, tR v0)]) rfl ?_
    exact b_Ta_addUntilFull_39 X hret hlk hnm   v0 σ21 hf

def f_Cl_isDue (v0 : Option Nat) (σ : Hp) : Option (Int32 × Hp) :=
  Option.bind (ld_I σ v0 1 2) fun x1 =>
  Option.bind (ld_I σ v0 1 3) fun x3 =>
  Option.bind (ld_I σ v0 1 5) fun x5 =>
  Option.bind (ld_I σ v0 1 0) fun x7 =>
  if ((x1 + x3) - x5) < x7 then
  (
    some (0, σ))
  else
  (
    some (1, σ))
set_option maxRecDepth 100000 in
theorem c_Cl_isDue {l : Launch} {DD : DT} (v0 : Option Nat) {σ0 σz : Hp} {rz : Int32} (hf : f_Cl_isDue v0 σ0 = some (rz, σz)) : CT l DD y_Cl_isDue prog_2_method_2_code 1 (some .boolean) rm_Cl_isDue [tR v0] σ0 (some (tI rz)) σz := by
  refine r_met (by decide) (Nat.le_of_ble_eq_true rfl) ?_
  intro p e s m args below meth c X hret hlk hnm
  unfold f_Cl_isDue at hf
  refine r_aload_n X d_Cl_isDue_0 rfl 0 rfl ?_
  obtain ⟨x1, h2, hf⟩ := obind hf
  refine r_ld_I (ci := 1) (k := 2) X h2 (Nat.le_of_ble_eq_true rfl) (Nat.le_of_ble_eq_true rfl) (Or.inl rfl) rfl q192 d_Cl_isDue_1 ?_
  refine r_aload_n X d_Cl_isDue_4 rfl 0 rfl ?_
  obtain ⟨x3, h4, hf⟩ := obind hf
  refine r_ld_I (ci := 1) (k := 3) X h4 (Nat.le_of_ble_eq_true rfl) (Nat.le_of_ble_eq_true rfl) (Or.inl rfl) rfl q194 d_Cl_isDue_5 ?_
  refine r_iadd X d_Cl_isDue_8 ?_
  refine r_aload_n X d_Cl_isDue_9 rfl 0 rfl ?_
  obtain ⟨x5, h6, hf⟩ := obind hf
  refine r_ld_I (ci := 1) (k := 5) X h6 (Nat.le_of_ble_eq_true rfl) (Nat.le_of_ble_eq_true rfl) (Or.inl rfl) rfl q197 d_Cl_isDue_10 ?_
  refine r_isub X d_Cl_isDue_13 ?_
  refine r_aload_n X d_Cl_isDue_14 rfl 0 rfl ?_
  obtain ⟨x7, h8, hf⟩ := obind hf
  refine r_ld_I (ci := 1) (k := 0) X h8 (Nat.le_of_ble_eq_true rfl) (Nat.le_of_ble_eq_true rfl) (Or.inl rfl) rfl q190 d_Cl_isDue_15 ?_
  refine r_icmp_lt (tgt := 25) X d_Cl_isDue_18 (by decide) (fun hc9 => ?_) (fun hc9 => ?_)
  · have hf := (if_pos hc9).symm.trans hf
    refine r_iconst (v := 0) X d_Cl_isDue_25 (by decide) ?_
    cases hf
    refine r_widen (kc2 := rm_Cl_isDue.cells) (ks2 := rm_Cl_isDue.slots) (Nat.le_of_ble_eq_true rfl) (Nat.le_of_ble_eq_true rfl) ?_
    exact r_zret X hret hlk (by decide) d_Cl_isDue_26
  · have hf := (if_neg hc9).symm.trans hf
    refine r_iconst (v := 1) X d_Cl_isDue_21 (by decide) ?_
    refine r_goto (tgt := 26) X d_Cl_isDue_22 (by decide) ?_
    cases hf
    refine r_widen (kc2 := rm_Cl_isDue.cells) (ks2 := rm_Cl_isDue.slots) (Nat.le_of_ble_eq_true rfl) (Nat.le_of_ble_eq_true rfl) ?_
    exact r_zret X hret hlk (by decide) d_Cl_isDue_26

def f_Cl_change_129  (v0 : Option Nat) (v2 : Int32) (v3 : Int32) (w0 : Int32) (w1 : Option Nat) (σ : Hp) : Option (Int32 × Hp) :=
  Option.bind (st_I σ w1 1 7 w0) fun σ27 =>
  Option.bind (st_I σ27 v0 1 6 v2) fun σ29 =>
  Option.bind (ld_I σ29 v0 1 2) fun x31 =>
  Option.bind (st_I σ29 v0 1 4 x31) fun σ33 =>
  Option.bind (ld_I σ33 v0 1 2) fun x35 =>
  Option.bind (ld_I σ33 v0 1 3) fun x37 =>
  Option.bind (st_I σ33 v0 1 5 (x35 + x37)) fun σ39 =>
  some (v3, σ39)
set_option maxRecDepth 100000 in
theorem b_Cl_change_129 {p : Program} {l : Launch} {e : Env} {s : State} {m : MethodId} {args : Array Value} {below : List Frame} {meth : Method} {c : Code} {DD : DT} {σ0 σz : Hp} {rz : Int32} (X : CX p s m args c prog_2_method_3_code 5 (dm σ0) DD y_Cl_change.cls) (hret : meth.sig.returnType = some .int) (hlk : meth.locks = false) (hnm : meth.name = y_Cl_change.name)   (v0 : Option Nat) (v2 : Int32) (v3 : Int32) (w0 : Int32) (w1 : Option Nat) (σ : Hp) (hf : f_Cl_change_129  v0 v2 v3 w0 w1 σ = some (rz, σz)) : GG p l e rm_Cl_change s m args below meth c 5 (dm σ0) DD (MQ below (Post DD σ0 (some (tI rz)) σz) args s rm_Cl_change.cells rm_Cl_change.slots (dm σ0)) 0 0 σ 129 [(0, tR v0), (2, tI v2), (3, tI v3)] [tI w0, tR w1] := by
  unfold f_Cl_change_129 at hf
  obtain ⟨σ27, h28, hf⟩ := obind hf
  refine r_st_I (ci := 1) (k := 7) X h28 (Nat.le_of_ble_eq_true rfl) (Nat.le_of_ble_eq_true rfl) rfl rfl rfl q199 d_Cl_change_129 ?_
  refine r_aload_n X d_Cl_change_132 rfl 0 rfl ?_
  refine r_iload_n X d_Cl_change_133 rfl 1 rfl ?_
  obtain ⟨σ29, h30, hf⟩ := obind hf
  refine r_st_I (ci := 1) (k := 6) X h30 (Nat.le_of_ble_eq_true rfl) (Nat.le_of_ble_eq_true rfl) rfl rfl rfl q198 d_Cl_change_134 ?_
  refine r_aload_n X d_Cl_change_137 rfl 0 rfl ?_
  refine r_aload_n X d_Cl_change_138 rfl 0 rfl ?_
  obtain ⟨x31, h32, hf⟩ := obind hf
  refine r_ld_I (ci := 1) (k := 2) X h32 (Nat.le_of_ble_eq_true rfl) (Nat.le_of_ble_eq_true rfl) (Or.inl rfl) rfl q192 d_Cl_change_139 ?_
  obtain ⟨σ33, h34, hf⟩ := obind hf
  refine r_st_I (ci := 1) (k := 4) X h34 (Nat.le_of_ble_eq_true rfl) (Nat.le_of_ble_eq_true rfl) rfl rfl rfl q196 d_Cl_change_142 ?_
  refine r_aload_n X d_Cl_change_145 rfl 0 rfl ?_
  refine r_aload_n X d_Cl_change_146 rfl 0 rfl ?_
  obtain ⟨x35, h36, hf⟩ := obind hf
  refine r_ld_I (ci := 1) (k := 2) X h36 (Nat.le_of_ble_eq_true rfl) (Nat.le_of_ble_eq_true rfl) (Or.inl rfl) rfl q192 d_Cl_change_147 ?_
  refine r_aload_n X d_Cl_change_150 rfl 0 rfl ?_
  obtain ⟨x37, h38, hf⟩ := obind hf
  refine r_ld_I (ci := 1) (k := 3) X h38 (Nat.le_of_ble_eq_true rfl) (Nat.le_of_ble_eq_true rfl) (Or.inl rfl) rfl q194 d_Cl_change_151 ?_
  refine r_iadd X d_Cl_change_154 ?_
  obtain ⟨σ39, h40, hf⟩ := obind hf
  refine r_st_I (ci := 1) (k := 5) X h40 (Nat.le_of_ble_eq_true rfl) (Nat.le_of_ble_eq_true rfl) rfl rfl rfl q197 d_Cl_change_155 ?_
  refine r_iload_n X d_Cl_change_158 rfl 2 rfl ?_
  cases hf
  refine r_widen (kc2 := rm_Cl_change.cells) (ks2 := rm_Cl_change.slots) (Nat.le_of_ble_eq_true rfl) (Nat.le_of_ble_eq_true rfl) ?_
  exact r_iret X hret hlk d_Cl_change_159

def f_Cl_change_100  (v0 : Option Nat) (v2 : Int32) (v3 : Int32) (w0 : Int32) (σ : Hp) : Option (Int32 × Hp) :=
  if w0 = 0 then
  (
    Option.bind (ld_I σ v0 1 7) fun x25 =>
    f_Cl_change_129  v0 v2 v3 (imax_ 1 ((x25 * 63) / 64)) v0 σ)
  else
  (
    Option.bind (ld_I σ v0 1 1) fun x41 =>
    f_Cl_change_129  v0 v2 v3 x41 v0 σ)
set_option maxRecDepth 100000 in
theorem b_Cl_change_100 {p : Program} {l : Launch} {e : Env} {s : State} {m : MethodId} {args : Array Value} {below : List Frame} {meth : Method} {c : Code} {DD : DT} {σ0 σz : Hp} {rz : Int32} (X : CX p s m args c prog_2_method_3_code 5 (dm σ0) DD y_Cl_change.cls) (hret : meth.sig.returnType = some .int) (hlk : meth.locks = false) (hnm : meth.name = y_Cl_change.name)   (v0 : Option Nat) (v2 : Int32) (v3 : Int32) (w0 : Int32) (σ : Hp) (hf : f_Cl_change_100  v0 v2 v3 w0 σ = some (rz, σz)) : GG p l e rm_Cl_change s m args below meth c 5 (dm σ0) DD (MQ below (Post DD σ0 (some (tI rz)) σz) args s rm_Cl_change.cells rm_Cl_change.slots (dm σ0)) 0 0 σ 100 [(0, tR v0), (2, tI v2), (3, tI v3)] [tI w0] := by
  unfold f_Cl_change_100 at hf
  refine r_istore (lv' := [(0, tR v0), (2, tI v2), (3, tI v3), (4, tI w0)]) X [1, 2, 3, 0] d_Cl_change_100 (Nat.le_of_ble_eq_true rfl) rfl ?_
  refine r_aload_n X d_Cl_change_102 rfl 0 rfl ?_
  refine r_iload X d_Cl_change_103 3 rfl ?_
  refine r_if_eq (tgt := 115) X d_Cl_change_105 (by decide) (fun hc24 => ?_) (fun hc24 => ?_)
  · have hf := (if_pos hc24).symm.trans hf
    refine r_iconst (v := 1) X d_Cl_change_115 (by decide) ?_
    refine r_aload_n X d_Cl_change_116 rfl 0 rfl ?_
    obtain ⟨x25, h26, hf⟩ := obind hf
    refine r_ld_I (ci := 1) (k := 7) X h26 (Nat.le_of_ble_eq_true rfl) (Nat.le_of_ble_eq_true rfl) (Or.inl rfl) rfl q199 d_Cl_change_117 ?_
    refine r_bipush (v := 63) X d_Cl_change_120 (by decide) ?_
    refine r_imul X d_Cl_change_122 ?_
    refine r_bipush (v := 64) X d_Cl_change_123 (by decide) ?_
    refine r_idiv X d_Cl_change_125 (by decide) ?_
    refine r_mmax X q189 q96 q5 q97 (Nat.le_of_ble_eq_true rfl) (Nat.le_of_ble_eq_true rfl) (Nat.le_of_ble_eq_true rfl) (Nat.le_of_ble_eq_true rfl) d_Cl_change_126 ?_
    refine r_widen (kc2 := 0) (ks2 := 0) (Nat.le_of_ble_eq_true rfl) (Nat.le_of_ble_eq_true rfl) ?_
    refine r_sub [0, 1, 2] (lv' := [(0, tR v0), (2, tI v2), (3, tI v3)]) rfl ?_
    exact b_Cl_change_129 X hret hlk hnm   v0 v2 v3 (imax_ 1 ((x25 * 63) / 64)) v0 σ hf
  · have hf := (if_neg hc24).symm.trans hf
    refine r_aload_n X d_Cl_change_108 rfl 0 rfl ?_
    obtain ⟨x41, h42, hf⟩ := obind hf
    refine r_ld_I (ci := 1) (k := 1) X h42 (Nat.le_of_ble_eq_true rfl) (Nat.le_of_ble_eq_true rfl) (Or.inl rfl) rfl q191 d_Cl_change_109 ?_
    refine r_goto (tgt := 129) X d_Cl_change_112 (by decide) ?_
    refine r_widen (kc2 := 0) (ks2 := 0) (Nat.le_of_ble_eq_true rfl) (Nat.le_of_ble_eq_true rfl) ?_
    refine r_sub [0, 1, 2] (lv' := [(0, tR v0), (2, tI v2), (3, tI v3)]) rfl ?_
    exact b_Cl_change_129 X hret hlk hnm   v0 v2 v3 x41 v0 σ hf

def f_Cl_change_80  (v0 : Option Nat) (v2 : Int32) (w0 : Int32) (σ : Hp) : Option (Int32 × Hp) :=
  Option.bind (ld_I σ v0 1 6) fun x21 =>
  if (iabs_ (v2 - x21)) < 50 then
  (
    f_Cl_change_100  v0 v2 w0 0 σ)
  else
  (
    f_Cl_change_100  v0 v2 w0 1 σ)
set_option maxRecDepth 100000 in
theorem b_Cl_change_80 {p : Program} {l : Launch} {e : Env} {s : State} {m : MethodId} {args : Array Value} {below : List Frame} {meth : Method} {c : Code} {DD : DT} {σ0 σz : Hp} {rz : Int32} (X : CX p s m args c prog_2_method_3_code 5 (dm σ0) DD y_Cl_change.cls) (hret : meth.sig.returnType = some .int) (hlk : meth.locks = false) (hnm : meth.name = y_Cl_change.name)   (v0 : Option Nat) (v2 : Int32) (w0 : Int32) (σ : Hp) (hf : f_Cl_change_80  v0 v2 w0 σ = some (rz, σz)) : GG p l e rm_Cl_change s m args below meth c 5 (dm σ0) DD (MQ below (Post DD σ0 (some (tI rz)) σz) args s rm_Cl_change.cells rm_Cl_change.slots (dm σ0)) 0 0 σ 80 [(0, tR v0), (2, tI v2)] [tI w0] := by
  unfold f_Cl_change_80 at hf
  refine r_istore_n (lv' := [(0, tR v0), (2, tI v2), (3, tI w0)]) X [1, 2, 0] d_Cl_change_80 rfl (Nat.le_of_ble_eq_true rfl) rfl ?_
  refine r_iload_n X d_Cl_change_81 rfl 1 rfl ?_
  refine r_aload_n X d_Cl_change_82 rfl 0 rfl ?_
  obtain ⟨x21, h22, hf⟩ := obind hf
  refine r_ld_I (ci := 1) (k := 6) X h22 (Nat.le_of_ble_eq_true rfl) (Nat.le_of_ble_eq_true rfl) (Or.inl rfl) rfl q198 d_Cl_change_83 ?_
  refine r_isub X d_Cl_change_86 ?_
  refine r_mabs X q436 q437 q5 q438 (Nat.le_of_ble_eq_true rfl) (Nat.le_of_ble_eq_true rfl) (Nat.le_of_ble_eq_true rfl) (Nat.le_of_ble_eq_true rfl) d_Cl_change_87 ?_
  refine r_bipush (v := 50) X d_Cl_change_90 (by decide) ?_
  refine r_icmp_lt (tgt := 99) X d_Cl_change_92 (by decide) (fun hc23 => ?_) (fun hc23 => ?_)
  · have hf := (if_pos hc23).symm.trans hf
    refine r_iconst (v := 0) X d_Cl_change_99 (by decide) ?_
    refine r_widen (kc2 := 0) (ks2 := 0) (Nat.le_of_ble_eq_true rfl) (Nat.le_of_ble_eq_true rfl) ?_
    refine r_sub [0, 1, 2] (lv' := [(0, tR v0), (2, tI v2), (3, tI w0)]) rfl ?_
    exact b_Cl_change_100 X hret hlk hnm   v0 v2 w0 0 σ hf
  · have hf := (if_neg hc23).symm.trans hf
    refine r_iconst (v := 1) X d_Cl_change_95 (by decide) ?_
    refine r_goto (tgt := 100) X d_Cl_change_96 (by decide) ?_
    refine r_widen (kc2 := 0) (ks2 := 0) (Nat.le_of_ble_eq_true rfl) (Nat.le_of_ble_eq_true rfl) ?_
    refine r_sub [0, 1, 2] (lv' := [(0, tR v0), (2, tI v2), (3, tI w0)]) rfl ?_
    exact b_Cl_change_100 X hret hlk hnm   v0 v2 w0 1 σ hf

def f_Cl_change_61  (v0 : Option Nat) (v2 : Int32) (σ : Hp) : Option (Int32 × Hp) :=
  Option.bind (ld_I σ v0 1 8) fun x16 =>
  if x16 = 0 then
  (
    Option.bind (ld_I σ v0 1 7) fun x19 =>
    f_Cl_change_80  v0 v2 (-x19) σ)
  else
  (
    Option.bind (ld_I σ v0 1 7) fun x43 =>
    f_Cl_change_80  v0 v2 x43 σ)
set_option maxRecDepth 100000 in
theorem b_Cl_change_61 {p : Program} {l : Launch} {e : Env} {s : State} {m : MethodId} {args : Array Value} {below : List Frame} {meth : Method} {c : Code} {DD : DT} {σ0 σz : Hp} {rz : Int32} (X : CX p s m args c prog_2_method_3_code 5 (dm σ0) DD y_Cl_change.cls) (hret : meth.sig.returnType = some .int) (hlk : meth.locks = false) (hnm : meth.name = y_Cl_change.name)   (v0 : Option Nat) (v2 : Int32) (σ : Hp) (hf : f_Cl_change_61  v0 v2 σ = some (rz, σz)) : GG p l e rm_Cl_change s m args below meth c 5 (dm σ0) DD (MQ below (Post DD σ0 (some (tI rz)) σz) args s rm_Cl_change.cells rm_Cl_change.slots (dm σ0)) 0 0 σ 61 [(0, tR v0), (2, tI v2)] [] := by
  unfold f_Cl_change_61 at hf
  refine r_aload_n X d_Cl_change_61 rfl 0 rfl ?_
  obtain ⟨x16, h17, hf⟩ := obind hf
  refine r_ld_I (ci := 1) (k := 8) X h17 (Nat.le_of_ble_eq_true rfl) (Nat.le_of_ble_eq_true rfl) (Or.inr rfl) rfl q200 d_Cl_change_62 ?_
  refine r_if_eq (tgt := 75) X d_Cl_change_65 (by decide) (fun hc18 => ?_) (fun hc18 => ?_)
  · have hf := (if_pos hc18).symm.trans hf
    refine r_aload_n X d_Cl_change_75 rfl 0 rfl ?_
    obtain ⟨x19, h20, hf⟩ := obind hf
    refine r_ld_I (ci := 1) (k := 7) X h20 (Nat.le_of_ble_eq_true rfl) (Nat.le_of_ble_eq_true rfl) (Or.inl rfl) rfl q199 d_Cl_change_76 ?_
    refine r_ineg X d_Cl_change_79 ?_
    refine r_widen (kc2 := 0) (ks2 := 0) (Nat.le_of_ble_eq_true rfl) (Nat.le_of_ble_eq_true rfl) ?_
    refine r_sub [0, 1] (lv' := [(0, tR v0), (2, tI v2)]) rfl ?_
    exact b_Cl_change_80 X hret hlk hnm   v0 v2 (-x19) σ hf
  · have hf := (if_neg hc18).symm.trans hf
    refine r_aload_n X d_Cl_change_68 rfl 0 rfl ?_
    obtain ⟨x43, h44, hf⟩ := obind hf
    refine r_ld_I (ci := 1) (k := 7) X h44 (Nat.le_of_ble_eq_true rfl) (Nat.le_of_ble_eq_true rfl) (Or.inl rfl) rfl q199 d_Cl_change_69 ?_
    refine r_goto (tgt := 80) X d_Cl_change_72 (by decide) ?_
    refine r_widen (kc2 := 0) (ks2 := 0) (Nat.le_of_ble_eq_true rfl) (Nat.le_of_ble_eq_true rfl) ?_
    refine r_sub [0, 1] (lv' := [(0, tR v0), (2, tI v2)]) rfl ?_
    exact b_Cl_change_80 X hret hlk hnm   v0 v2 x43 σ hf

def f_Cl_change_58  (v0 : Option Nat) (v2 : Int32) (w0 : Int32) (w1 : Option Nat) (σ : Hp) : Option (Int32 × Hp) :=
  Option.bind (st_Z σ w1 1 8 w0) fun σ48 =>
  f_Cl_change_61  v0 v2 σ48
set_option maxRecDepth 100000 in
theorem b_Cl_change_58 {p : Program} {l : Launch} {e : Env} {s : State} {m : MethodId} {args : Array Value} {below : List Frame} {meth : Method} {c : Code} {DD : DT} {σ0 σz : Hp} {rz : Int32} (X : CX p s m args c prog_2_method_3_code 5 (dm σ0) DD y_Cl_change.cls) (hret : meth.sig.returnType = some .int) (hlk : meth.locks = false) (hnm : meth.name = y_Cl_change.name)   (v0 : Option Nat) (v2 : Int32) (w0 : Int32) (w1 : Option Nat) (σ : Hp) (hf : f_Cl_change_58  v0 v2 w0 w1 σ = some (rz, σz)) : GG p l e rm_Cl_change s m args below meth c 5 (dm σ0) DD (MQ below (Post DD σ0 (some (tI rz)) σz) args s rm_Cl_change.cells rm_Cl_change.slots (dm σ0)) 0 0 σ 58 [(0, tR v0), (2, tI v2)] [tI w0, tR w1] := by
  unfold f_Cl_change_58 at hf
  obtain ⟨σ48, h49, hf⟩ := obind hf
  refine r_st_Z (ci := 1) (k := 8) X h49 (Nat.le_of_ble_eq_true rfl) (Nat.le_of_ble_eq_true rfl) rfl rfl rfl q200 d_Cl_change_58 ?_
  refine r_widen (kc2 := 0) (ks2 := 0) (Nat.le_of_ble_eq_true rfl) (Nat.le_of_ble_eq_true rfl) ?_
  refine r_sub [0, 1] (lv' := [(0, tR v0), (2, tI v2)]) rfl ?_
  exact b_Cl_change_61 X hret hlk hnm   v0 v2 σ48 hf

def f_Cl_change (v0 : Option Nat) (σ : Hp) : Option (Int32 × Hp) :=
  Option.bind (ld_I σ v0 1 2) fun x1 =>
  Option.bind (ld_I σ v0 1 3) fun x3 =>
  Option.bind (ld_I σ v0 1 5) fun x5 =>
  if 0 < ((x1 + x3) - x5) then
  (
    Option.bind (ld_I σ v0 1 2) fun x8 =>
    Option.bind (ld_I σ v0 1 4) fun x10 =>
    if ((x1 + x3) - x5) = 0 then none else
    Option.bind (ld_I σ v0 1 6) fun x13 =>
    if x13 ≤ ((1000 * (x8 - x10)) / ((x1 + x3) - x5)) then
    (
      f_Cl_change_61  v0 ((1000 * (x8 - x10)) / ((x1 + x3) - x5)) σ)
    else
    (
      Option.bind (ld_I σ v0 1 8) fun x45 =>
      if x45 = 0 then
      (
        f_Cl_change_58  v0 ((1000 * (x8 - x10)) / ((x1 + x3) - x5)) 1 v0 σ)
      else
      (
        f_Cl_change_58  v0 ((1000 * (x8 - x10)) / ((x1 + x3) - x5)) 0 v0 σ)))
  else
  (
    some (0, σ))
set_option maxRecDepth 100000 in
theorem c_Cl_change {l : Launch} {DD : DT} (v0 : Option Nat) {σ0 σz : Hp} {rz : Int32} (hf : f_Cl_change v0 σ0 = some (rz, σz)) : CT l DD y_Cl_change prog_2_method_3_code 5 (some .int) rm_Cl_change [tR v0] σ0 (some (tI rz)) σz := by
  refine r_met (by decide) (Nat.le_of_ble_eq_true rfl) ?_
  intro p e s m args below meth c X hret hlk hnm
  unfold f_Cl_change at hf
  refine r_aload_n X d_Cl_change_0 rfl 0 rfl ?_
  obtain ⟨x1, h2, hf⟩ := obind hf
  refine r_ld_I (ci := 1) (k := 2) X h2 (Nat.le_of_ble_eq_true rfl) (Nat.le_of_ble_eq_true rfl) (Or.inl rfl) rfl q192 d_Cl_change_1 ?_
  refine r_aload_n X d_Cl_change_4 rfl 0 rfl ?_
  obtain ⟨x3, h4, hf⟩ := obind hf
  refine r_ld_I (ci := 1) (k := 3) X h4 (Nat.le_of_ble_eq_true rfl) (Nat.le_of_ble_eq_true rfl) (Or.inl rfl) rfl q194 d_Cl_change_5 ?_
  refine r_iadd X d_Cl_change_8 ?_
  refine r_aload_n X d_Cl_change_9 rfl 0 rfl ?_
  obtain ⟨x5, h6, hf⟩ := obind hf
  refine r_ld_I (ci := 1) (k := 5) X h6 (Nat.le_of_ble_eq_true rfl) (Nat.le_of_ble_eq_true rfl) (Or.inl rfl) rfl q197 d_Cl_change_10 ?_
  refine r_isub X d_Cl_change_13 ?_
  refine r_istore_n (lv' := [(0, tR v0), (1, tI ((x1 + x3) - x5))]) X [1, 0] d_Cl_change_14 rfl (Nat.le_of_ble_eq_true rfl) rfl ?_
  refine r_iload_n X d_Cl_change_15 rfl 1 rfl ?_
  refine r_if_gt (tgt := 21) X d_Cl_change_16 (by decide) (fun hc7 => ?_) (fun hc7 => ?_)
  · have hf := (if_pos hc7).symm.trans hf
    refine r_sipush (v := 1000) X d_Cl_change_21 (by decide) ?_
    refine r_aload_n X d_Cl_change_24 rfl 0 rfl ?_
    obtain ⟨x8, h9, hf⟩ := obind hf
    refine r_ld_I (ci := 1) (k := 2) X h9 (Nat.le_of_ble_eq_true rfl) (Nat.le_of_ble_eq_true rfl) (Or.inl rfl) rfl q192 d_Cl_change_25 ?_
    refine r_aload_n X d_Cl_change_28 rfl 0 rfl ?_
    obtain ⟨x10, h11, hf⟩ := obind hf
    refine r_ld_I (ci := 1) (k := 4) X h11 (Nat.le_of_ble_eq_true rfl) (Nat.le_of_ble_eq_true rfl) (Or.inl rfl) rfl q196 d_Cl_change_29 ?_
    refine r_isub X d_Cl_change_32 ?_
    refine r_imul X d_Cl_change_33 ?_
    refine r_iload_n X d_Cl_change_34 rfl 1 rfl ?_
    have hz12 : ¬ ((x1 + x3) - x5) = 0 := by
      intro z
      have hf := (if_pos z).symm.trans hf
      cases hf
    have hf := (if_neg hz12).symm.trans hf
    refine r_idiv X d_Cl_change_35 hz12 ?_
    refine r_istore_n (lv' := [(0, tR v0), (2, tI ((1000 * (x8 - x10)) / ((x1 + x3) - x5)))]) X [1, 0] d_Cl_change_36 rfl (Nat.le_of_ble_eq_true rfl) rfl ?_
    refine r_iload_n X d_Cl_change_37 rfl 1 rfl ?_
    refine r_aload_n X d_Cl_change_38 rfl 0 rfl ?_
    obtain ⟨x13, h14, hf⟩ := obind hf
    refine r_ld_I (ci := 1) (k := 6) X h14 (Nat.le_of_ble_eq_true rfl) (Nat.le_of_ble_eq_true rfl) (Or.inl rfl) rfl q198 d_Cl_change_39 ?_
    refine r_icmp_ge (tgt := 61) X d_Cl_change_42 (by decide) (fun hc15 => ?_) (fun hc15 => ?_)
    · have hf := (if_pos hc15).symm.trans hf
      refine r_widen (kc2 := 0) (ks2 := 0) (Nat.le_of_ble_eq_true rfl) (Nat.le_of_ble_eq_true rfl) ?_
      refine r_sub [0, 1] (lv' := [(0, tR v0), (2, tI ((1000 * (x8 - x10)) / ((x1 + x3) - x5)))]) rfl ?_
      exact b_Cl_change_61 X hret hlk hnm   v0 ((1000 * (x8 - x10)) / ((x1 + x3) - x5)) σ0 hf
    · have hf := (if_neg hc15).symm.trans hf
      refine r_aload_n X d_Cl_change_45 rfl 0 rfl ?_
      refine r_aload_n X d_Cl_change_46 rfl 0 rfl ?_
      obtain ⟨x45, h46, hf⟩ := obind hf
      refine r_ld_I (ci := 1) (k := 8) X h46 (Nat.le_of_ble_eq_true rfl) (Nat.le_of_ble_eq_true rfl) (Or.inr rfl) rfl q200 d_Cl_change_47 ?_
      refine r_if_ne (tgt := 57) X d_Cl_change_50 (by decide) (fun hc47 => ?_) (fun hc47 => ?_)
      · have hf := (if_neg hc47).symm.trans hf
        refine r_iconst (v := 0) X d_Cl_change_57 (by decide) ?_
        refine r_widen (kc2 := 0) (ks2 := 0) (Nat.le_of_ble_eq_true rfl) (Nat.le_of_ble_eq_true rfl) ?_
        refine r_sub [0, 1] (lv' := [(0, tR v0), (2, tI ((1000 * (x8 - x10)) / ((x1 + x3) - x5)))]) rfl ?_
        exact b_Cl_change_58 X hret hlk hnm   v0 ((1000 * (x8 - x10)) / ((x1 + x3) - x5)) 0 v0 σ0 hf
      · have hf := (if_pos hc47).symm.trans hf
        refine r_iconst (v := 1) X d_Cl_change_53 (by decide) ?_
        refine r_goto (tgt := 58) X d_Cl_change_54 (by decide) ?_
        refine r_widen (kc2 := 0) (ks2 := 0) (Nat.le_of_ble_eq_true rfl) (Nat.le_of_ble_eq_true rfl) ?_
        refine r_sub [0, 1] (lv' := [(0, tR v0), (2, tI ((1000 * (x8 - x10)) / ((x1 + x3) - x5)))]) rfl ?_
        exact b_Cl_change_58 X hret hlk hnm   v0 ((1000 * (x8 - x10)) / ((x1 + x3) - x5)) 1 v0 σ0 hf
  · have hf := (if_neg hc7).symm.trans hf
    refine r_iconst (v := 0) X d_Cl_change_19 (by decide) ?_
    cases hf
    refine r_widen (kc2 := rm_Cl_change.cells) (ks2 := rm_Cl_change.slots) (Nat.le_of_ble_eq_true rfl) (Nat.le_of_ble_eq_true rfl) ?_
    exact r_iret X hret hlk d_Cl_change_20

def f_Lo_told (v0 : Option Nat) (v1 : Int32) (v2 : Int32) (σ : Hp) : Option (Int32 × Hp) :=
  if v1 < 0 then
  (
    some ((-1), σ))
  else
  (
    Option.bind (ld_I σ v0 5 3) fun x2 =>
    if v1 < x2 then
    (
      if v2 = 0 then
      (
        Option.bind (ld_R σ v0 5 0) fun x6 =>
        Option.bind (al_I σ 0 x6 v1) fun x8 =>
        some (x8, σ))
      else
      if v2 = 1 then
      (
        Option.bind (ld_R σ v0 5 1) fun x11 =>
        Option.bind (al_I σ 0 x11 v1) fun x13 =>
        some (x13, σ))
      else
      if v2 = 2 then
      (
        Option.bind (ld_R σ v0 5 2) fun x16 =>
        Option.bind (al_I σ 0 x16 v1) fun x18 =>
        some (x18, σ))
      else
      (
        some ((-1), σ)))
    else
    (
      some ((-1), σ)))
set_option maxRecDepth 100000 in
theorem c_Lo_told {l : Launch} {DD : DT} (v0 : Option Nat) (v1 : Int32) (v2 : Int32) {σ0 σz : Hp} {rz : Int32} (hf : f_Lo_told v0 v1 v2 σ0 = some (rz, σz)) : CT l DD y_Lo_told prog_6_method_3_code 3 (some .int) rm_Lo_told [tR v0, tI v1, tI v2] σ0 (some (tI rz)) σz := by
  refine r_met (by decide) (Nat.le_of_ble_eq_true rfl) ?_
  intro p e s m args below meth c X hret hlk hnm
  unfold f_Lo_told at hf
  refine r_iload_n X d_Lo_told_0 rfl 1 rfl ?_
  refine r_if_lt (tgt := 12) X d_Lo_told_1 (by decide) (fun hc1 => ?_) (fun hc1 => ?_)
  · have hf := (if_pos hc1).symm.trans hf
    refine r_iconst (v := -1) X d_Lo_told_12 (by decide) ?_
    cases hf
    refine r_widen (kc2 := rm_Lo_told.cells) (ks2 := rm_Lo_told.slots) (Nat.le_of_ble_eq_true rfl) (Nat.le_of_ble_eq_true rfl) ?_
    exact r_iret X hret hlk d_Lo_told_13
  · have hf := (if_neg hc1).symm.trans hf
    refine r_iload_n X d_Lo_told_4 rfl 1 rfl ?_
    refine r_aload_n X d_Lo_told_5 rfl 0 rfl ?_
    obtain ⟨x2, h3, hf⟩ := obind hf
    refine r_ld_I (ci := 5) (k := 3) X h3 (Nat.le_of_ble_eq_true rfl) (Nat.le_of_ble_eq_true rfl) (Or.inl rfl) rfl q82 d_Lo_told_6 ?_
    refine r_icmp_lt (tgt := 14) X d_Lo_told_9 (by decide) (fun hc4 => ?_) (fun hc4 => ?_)
    · have hf := (if_pos hc4).symm.trans hf
      refine r_iload_n X d_Lo_told_14 rfl 2 rfl ?_
      by_cases hc5 : v2 = 0
      · have hf := (if_pos hc5).symm.trans hf
        refine r_tableIn (tgt := 40) (off := 25) X d_Lo_told_15 (by rw [hc5]; decide) (by rw [hc5]; decide) (by rw [hc5]; decide) (by decide) ?_
        refine r_aload_n X d_Lo_told_40 rfl 0 rfl ?_
        obtain ⟨x6, h7, hf⟩ := obind hf
        refine r_ld_R (ci := 5) (k := 0) X h7 (Nat.le_of_ble_eq_true rfl) (Nat.le_of_ble_eq_true rfl) rfl rfl q79 d_Lo_told_41 ?_
        refine r_iload_n X d_Lo_told_44 rfl 1 rfl ?_
        obtain ⟨x8, h9, hf⟩ := obind hf
        refine r_al_I X h9 d_Lo_told_45 ?_
        cases hf
        refine r_widen (kc2 := rm_Lo_told.cells) (ks2 := rm_Lo_told.slots) (Nat.le_of_ble_eq_true rfl) (Nat.le_of_ble_eq_true rfl) ?_
        exact r_iret X hret hlk d_Lo_told_46
      have hf := (if_neg hc5).symm.trans hf
      by_cases hc10 : v2 = 1
      · have hf := (if_pos hc10).symm.trans hf
        refine r_tableIn (tgt := 47) (off := 32) X d_Lo_told_15 (by rw [hc10]; decide) (by rw [hc10]; decide) (by rw [hc10]; decide) (by decide) ?_
        refine r_aload_n X d_Lo_told_47 rfl 0 rfl ?_
        obtain ⟨x11, h12, hf⟩ := obind hf
        refine r_ld_R (ci := 5) (k := 1) X h12 (Nat.le_of_ble_eq_true rfl) (Nat.le_of_ble_eq_true rfl) rfl rfl q80 d_Lo_told_48 ?_
        refine r_iload_n X d_Lo_told_51 rfl 1 rfl ?_
        obtain ⟨x13, h14, hf⟩ := obind hf
        refine r_al_I X h14 d_Lo_told_52 ?_
        cases hf
        refine r_widen (kc2 := rm_Lo_told.cells) (ks2 := rm_Lo_told.slots) (Nat.le_of_ble_eq_true rfl) (Nat.le_of_ble_eq_true rfl) ?_
        exact r_iret X hret hlk d_Lo_told_53
      have hf := (if_neg hc10).symm.trans hf
      by_cases hc15 : v2 = 2
      · have hf := (if_pos hc15).symm.trans hf
        refine r_tableIn (tgt := 54) (off := 39) X d_Lo_told_15 (by rw [hc15]; decide) (by rw [hc15]; decide) (by rw [hc15]; decide) (by decide) ?_
        refine r_aload_n X d_Lo_told_54 rfl 0 rfl ?_
        obtain ⟨x16, h17, hf⟩ := obind hf
        refine r_ld_R (ci := 5) (k := 2) X h17 (Nat.le_of_ble_eq_true rfl) (Nat.le_of_ble_eq_true rfl) rfl rfl q81 d_Lo_told_55 ?_
        refine r_iload_n X d_Lo_told_58 rfl 1 rfl ?_
        obtain ⟨x18, h19, hf⟩ := obind hf
        refine r_al_I X h19 d_Lo_told_59 ?_
        cases hf
        refine r_widen (kc2 := rm_Lo_told.cells) (ks2 := rm_Lo_told.slots) (Nat.le_of_ble_eq_true rfl) (Nat.le_of_ble_eq_true rfl) ?_
        exact r_iret X hret hlk d_Lo_told_60
      have hf := (if_neg hc15).symm.trans hf
      refine r_tableOut (tgt := 61) X d_Lo_told_15 (sw_out 2 [0, 1, 2] rfl (List.forall_mem_cons.mpr ⟨hc5, List.forall_mem_cons.mpr ⟨hc10, List.forall_mem_cons.mpr ⟨hc15, fun _ h => absurd h List.not_mem_nil⟩⟩⟩)) (by decide) ?_
      refine r_iconst (v := -1) X d_Lo_told_61 (by decide) ?_
      cases hf
      refine r_widen (kc2 := rm_Lo_told.cells) (ks2 := rm_Lo_told.slots) (Nat.le_of_ble_eq_true rfl) (Nat.le_of_ble_eq_true rfl) ?_
      exact r_iret X hret hlk d_Lo_told_62
    · have hf := (if_neg hc4).symm.trans hf
      refine r_iconst (v := -1) X d_Lo_told_12 (by decide) ?_
      cases hf
      refine r_widen (kc2 := rm_Lo_told.cells) (ks2 := rm_Lo_told.slots) (Nat.le_of_ble_eq_true rfl) (Nat.le_of_ble_eq_true rfl) ?_
      exact r_iret X hret hlk d_Lo_told_13

def f_Li_begin_51  (v0 : Option Nat) (v1 : Option Nat) (w0 : Int32) (w1 : Option Nat) (σ : Hp) : Option Hp :=
  Option.bind (st_Z σ w1 3 6 w0) fun σ8 =>
  Option.bind (is_O σ8 v0 4) fun x11 =>
  Option.bind (f_Li_prolong v0 v1 σ8) fun σ13 =>
  some σ13
set_option maxRecDepth 100000 in
theorem b_Li_begin_51 {p : Program} {l : Launch} {e : Env} {s : State} {m : MethodId} {args : Array Value} {below : List Frame} {meth : Method} {c : Code} {DD : DT} {σ0 σz : Hp} (X : CX p s m args c prog_5_method_2_code 4 (dm σ0) DD y_Li_begin.cls) (hret : meth.sig.returnType = none) (hlk : meth.locks = false) (hnm : meth.name = y_Li_begin.name)   (v0 : Option Nat) (v1 : Option Nat) (w0 : Int32) (w1 : Option Nat) (σ : Hp) (hf : f_Li_begin_51  v0 v1 w0 w1 σ = some σz) : GG p l e rm_Li_begin s m args below meth c 4 (dm σ0) DD (MQ below (Post DD σ0 none σz) args s rm_Li_begin.cells rm_Li_begin.slots (dm σ0)) 0 0 σ 51 [(0, tR v0), (1, tR v1)] [tI w0, tR w1] := by
  unfold f_Li_begin_51 at hf
  obtain ⟨σ8, h9, hf⟩ := obind hf
  refine r_st_Z (ci := 3) (k := 6) X h9 (Nat.le_of_ble_eq_true rfl) (Nat.le_of_ble_eq_true rfl) rfl rfl rfl q617 d_Li_begin_51 ?_
  refine r_aload_n X d_Li_begin_54 rfl 0 rfl ?_
  refine r_aload_n X d_Li_begin_55 rfl 1 rfl ?_
  obtain ⟨x11, h10, hf⟩ := obind hf
  obtain ⟨σ13, h12, hf⟩ := obind hf
  refine r_callV (st := []) X [tR v1] (ci := 4) h10 (Nat.le_of_ble_eq_true rfl) q598 q283 q284 (c_Li_prolong v0 v1 h12) q285 q6 y_Li_prolong_ok rfl ⟨Nat.le_of_ble_eq_true rfl, Nat.le_of_ble_eq_true rfl⟩ (Nat.le_of_ble_eq_true rfl) ⟨Nat.le_of_ble_eq_true rfl, Nat.le_of_ble_eq_true rfl⟩ d_Li_begin_56 ?_
  cases hf
  refine r_widen (kc2 := rm_Li_begin.cells) (ks2 := rm_Li_begin.slots) (Nat.le_of_ble_eq_true rfl) (Nat.le_of_ble_eq_true rfl) ?_
  exact r_vret X hret hlk d_Li_begin_59

def f_Li_begin_50  (v0 : Option Nat) (v1 : Option Nat) (w0 : Option Nat) (σ : Hp) : Option Hp :=
  f_Li_begin_51  v0 v1 0 w0 σ
set_option maxRecDepth 100000 in
theorem b_Li_begin_50 {p : Program} {l : Launch} {e : Env} {s : State} {m : MethodId} {args : Array Value} {below : List Frame} {meth : Method} {c : Code} {DD : DT} {σ0 σz : Hp} (X : CX p s m args c prog_5_method_2_code 4 (dm σ0) DD y_Li_begin.cls) (hret : meth.sig.returnType = none) (hlk : meth.locks = false) (hnm : meth.name = y_Li_begin.name)   (v0 : Option Nat) (v1 : Option Nat) (w0 : Option Nat) (σ : Hp) (hf : f_Li_begin_50  v0 v1 w0 σ = some σz) : GG p l e rm_Li_begin s m args below meth c 4 (dm σ0) DD (MQ below (Post DD σ0 none σz) args s rm_Li_begin.cells rm_Li_begin.slots (dm σ0)) 0 0 σ 50 [(0, tR v0), (1, tR v1)] [tR w0] := by
  unfold f_Li_begin_50 at hf
  refine r_iconst (v := 0) X d_Li_begin_50 (by decide) ?_
  refine r_widen (kc2 := 0) (ks2 := 0) (Nat.le_of_ble_eq_true rfl) (Nat.le_of_ble_eq_true rfl) ?_
  refine r_sub [0, 1] (lv' := [(0, tR v0), (1, tR v1)]) rfl ?_
  exact b_Li_begin_51 X hret hlk hnm   v0 v1 0 w0 σ hf

def f_Li_begin_31  (v0 : Option Nat) (v1 : Option Nat) (v2 : Int32) (w0 : Int64) (w1 : Option Nat) (σ : Hp) : Option Hp :=
  Option.bind (st_L σ w1 3 4 w0) fun σ5 =>
  if 0 < v2 then
  (
    f_Li_begin_50  v0 v1 v1 σ5)
  else
  (
    Option.bind (ld_I σ5 v0 4 1) fun x14 =>
    if x14 ≤ 0 then
    (
      f_Li_begin_50  v0 v1 v1 σ5)
    else
    (
      f_Li_begin_51  v0 v1 1 v1 σ5))
set_option maxRecDepth 100000 in
theorem b_Li_begin_31 {p : Program} {l : Launch} {e : Env} {s : State} {m : MethodId} {args : Array Value} {below : List Frame} {meth : Method} {c : Code} {DD : DT} {σ0 σz : Hp} (X : CX p s m args c prog_5_method_2_code 4 (dm σ0) DD y_Li_begin.cls) (hret : meth.sig.returnType = none) (hlk : meth.locks = false) (hnm : meth.name = y_Li_begin.name)   (v0 : Option Nat) (v1 : Option Nat) (v2 : Int32) (w0 : Int64) (w1 : Option Nat) (σ : Hp) (hf : f_Li_begin_31  v0 v1 v2 w0 w1 σ = some σz) : GG p l e rm_Li_begin s m args below meth c 4 (dm σ0) DD (MQ below (Post DD σ0 none σz) args s rm_Li_begin.cells rm_Li_begin.slots (dm σ0)) 0 0 σ 31 [(0, tR v0), (1, tR v1), (2, tI v2)] [tL w0, tR w1] := by
  unfold f_Li_begin_31 at hf
  obtain ⟨σ5, h6, hf⟩ := obind hf
  refine r_st_L (ci := 3) (k := 4) X h6 (Nat.le_of_ble_eq_true rfl) (Nat.le_of_ble_eq_true rfl) rfl rfl rfl q614 d_Li_begin_31 ?_
  refine r_aload_n X d_Li_begin_34 rfl 1 rfl ?_
  refine r_iload_n X d_Li_begin_35 rfl 2 rfl ?_
  refine r_if_gt (tgt := 50) X d_Li_begin_36 (by decide) (fun hc7 => ?_) (fun hc7 => ?_)
  · have hf := (if_pos hc7).symm.trans hf
    refine r_widen (kc2 := 0) (ks2 := 0) (Nat.le_of_ble_eq_true rfl) (Nat.le_of_ble_eq_true rfl) ?_
    refine r_sub [0, 1] (lv' := [(0, tR v0), (1, tR v1)]) rfl ?_
    exact b_Li_begin_50 X hret hlk hnm   v0 v1 v1 σ5 hf
  · have hf := (if_neg hc7).symm.trans hf
    refine r_aload_n X d_Li_begin_39 rfl 0 rfl ?_
    obtain ⟨x14, h15, hf⟩ := obind hf
    refine r_ld_I (ci := 4) (k := 1) X h15 (Nat.le_of_ble_eq_true rfl) (Nat.le_of_ble_eq_true rfl) (Or.inl rfl) rfl q105 d_Li_begin_40 ?_
    refine r_if_le (tgt := 50) X d_Li_begin_43 (by decide) (fun hc16 => ?_) (fun hc16 => ?_)
    · have hf := (if_pos hc16).symm.trans hf
      refine r_widen (kc2 := 0) (ks2 := 0) (Nat.le_of_ble_eq_true rfl) (Nat.le_of_ble_eq_true rfl) ?_
      refine r_sub [0, 1] (lv' := [(0, tR v0), (1, tR v1)]) rfl ?_
      exact b_Li_begin_50 X hret hlk hnm   v0 v1 v1 σ5 hf
    · have hf := (if_neg hc16).symm.trans hf
      refine r_iconst (v := 1) X d_Li_begin_46 (by decide) ?_
      refine r_goto (tgt := 51) X d_Li_begin_47 (by decide) ?_
      refine r_widen (kc2 := 0) (ks2 := 0) (Nat.le_of_ble_eq_true rfl) (Nat.le_of_ble_eq_true rfl) ?_
      refine r_sub [0, 1] (lv' := [(0, tR v0), (1, tR v1)]) rfl ?_
      exact b_Li_begin_51 X hret hlk hnm   v0 v1 1 v1 σ5 hf

def f_Li_begin_12  (v0 : Option Nat) (v1 : Option Nat) (v2 : Int32) (w0 : Int32) (σ : Hp) : Option Hp :=
  if w0 ≤ 0 then
  (
    f_Li_begin_31  v0 v1 v2 4611686018427387904 v1 σ)
  else
  (
    Option.bind (ld_L σ v0 4 2) fun x17 =>
    f_Li_begin_31  v0 v1 v2 (x17 + (Int32.toInt64 w0)) v1 σ)
set_option maxRecDepth 100000 in
theorem b_Li_begin_12 {p : Program} {l : Launch} {e : Env} {s : State} {m : MethodId} {args : Array Value} {below : List Frame} {meth : Method} {c : Code} {DD : DT} {σ0 σz : Hp} (X : CX p s m args c prog_5_method_2_code 4 (dm σ0) DD y_Li_begin.cls) (hret : meth.sig.returnType = none) (hlk : meth.locks = false) (hnm : meth.name = y_Li_begin.name)   (v0 : Option Nat) (v1 : Option Nat) (v2 : Int32) (w0 : Int32) (σ : Hp) (hf : f_Li_begin_12  v0 v1 v2 w0 σ = some σz) : GG p l e rm_Li_begin s m args below meth c 4 (dm σ0) DD (MQ below (Post DD σ0 none σz) args s rm_Li_begin.cells rm_Li_begin.slots (dm σ0)) 0 0 σ 12 [(0, tR v0), (1, tR v1), (2, tI v2)] [tI w0] := by
  unfold f_Li_begin_12 at hf
  refine r_istore_n (lv' := [(0, tR v0), (1, tR v1), (2, tI v2), (3, tI w0)]) X [1, 2, 3, 0] d_Li_begin_12 rfl (Nat.le_of_ble_eq_true rfl) rfl ?_
  refine r_aload_n X d_Li_begin_13 rfl 1 rfl ?_
  refine r_iload_n X d_Li_begin_14 rfl 3 rfl ?_
  refine r_if_le (tgt := 28) X d_Li_begin_15 (by decide) (fun hc4 => ?_) (fun hc4 => ?_)
  · have hf := (if_pos hc4).symm.trans hf
    refine r_ldc2 X d_Li_begin_28 q597 ?_
    refine r_widen (kc2 := 0) (ks2 := 0) (Nat.le_of_ble_eq_true rfl) (Nat.le_of_ble_eq_true rfl) ?_
    refine r_sub [0, 1, 2] (lv' := [(0, tR v0), (1, tR v1), (2, tI v2)]) rfl ?_
    exact b_Li_begin_31 X hret hlk hnm   v0 v1 v2 4611686018427387904 v1 σ hf
  · have hf := (if_neg hc4).symm.trans hf
    refine r_aload_n X d_Li_begin_18 rfl 0 rfl ?_
    obtain ⟨x17, h18, hf⟩ := obind hf
    refine r_ld_L (ci := 4) (k := 2) X h18 (Nat.le_of_ble_eq_true rfl) (Nat.le_of_ble_eq_true rfl) rfl rfl q106 d_Li_begin_19 ?_
    refine r_iload_n X d_Li_begin_22 rfl 3 rfl ?_
    refine r_i2l X d_Li_begin_23 ?_
    refine r_ladd X d_Li_begin_24 ?_
    refine r_goto (tgt := 31) X d_Li_begin_25 (by decide) ?_
    refine r_widen (kc2 := 0) (ks2 := 0) (Nat.le_of_ble_eq_true rfl) (Nat.le_of_ble_eq_true rfl) ?_
    refine r_sub [0, 1, 2] (lv' := [(0, tR v0), (1, tR v1), (2, tI v2)]) rfl ?_
    exact b_Li_begin_31 X hret hlk hnm   v0 v1 v2 (x17 + (Int32.toInt64 w0)) v1 σ hf

def f_Li_begin (v0 : Option Nat) (v1 : Option Nat) (v2 : Int32) (σ : Hp) : Option Hp :=
  if v2 ≤ 0 then
  (
    Option.bind (ld_I σ v0 4 0) fun x2 =>
    f_Li_begin_12  v0 v1 v2 x2 σ)
  else
  (
    f_Li_begin_12  v0 v1 v2 v2 σ)
set_option maxRecDepth 100000 in
theorem c_Li_begin {l : Launch} {DD : DT} (v0 : Option Nat) (v1 : Option Nat) (v2 : Int32) {σ0 σz : Hp} (hf : f_Li_begin v0 v1 v2 σ0 = some σz) : CT l DD y_Li_begin prog_5_method_2_code 4 none rm_Li_begin [tR v0, tR v1, tI v2] σ0 none σz := by
  refine r_met (by decide) (Nat.le_of_ble_eq_true rfl) ?_
  intro p e s m args below meth c X hret hlk hnm
  unfold f_Li_begin at hf
  refine r_iload_n X d_Li_begin_0 rfl 2 rfl ?_
  refine r_if_le (tgt := 8) X d_Li_begin_1 (by decide) (fun hc1 => ?_) (fun hc1 => ?_)
  · have hf := (if_pos hc1).symm.trans hf
    refine r_aload_n X d_Li_begin_8 rfl 0 rfl ?_
    obtain ⟨x2, h3, hf⟩ := obind hf
    refine r_ld_I (ci := 4) (k := 0) X h3 (Nat.le_of_ble_eq_true rfl) (Nat.le_of_ble_eq_true rfl) (Or.inl rfl) rfl q104 d_Li_begin_9 ?_
    refine r_widen (kc2 := 0) (ks2 := 0) (Nat.le_of_ble_eq_true rfl) (Nat.le_of_ble_eq_true rfl) ?_
    refine r_sub [0, 1, 2] (lv' := [(0, tR v0), (1, tR v1), (2, tI v2)]) rfl ?_
    exact b_Li_begin_12 X hret hlk hnm   v0 v1 v2 x2 σ0 hf
  · have hf := (if_neg hc1).symm.trans hf
    refine r_iload_n X d_Li_begin_4 rfl 2 rfl ?_
    refine r_goto (tgt := 12) X d_Li_begin_5 (by decide) ?_
    refine r_widen (kc2 := 0) (ks2 := 0) (Nat.le_of_ble_eq_true rfl) (Nat.le_of_ble_eq_true rfl) ?_
    refine r_sub [0, 1, 2] (lv' := [(0, tR v0), (1, tR v1), (2, tI v2)]) rfl ?_
    exact b_Li_begin_12 X hret hlk hnm   v0 v1 v2 v2 σ0 hf

