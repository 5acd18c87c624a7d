def f_Co_init_26 (n : Nat)  (v0 : Option Nat) (v2 : Int32) (σ : Hp) : Option Hp :=
  Option.bind (st_I σ v0 2 0 v2) fun σ4 =>
  if ((4 * v2) / 8) < 0 ∨ 4096 < ((4 * v2) / 8).toNatClampNeg then none else
  Option.bind (st_R (nw_A σ4 (0, ((4 * v2) / 8 : Int32).toNatClampNeg, .inl (fun _ => 0))) v0 2 1 (some (hp_N σ4))) fun σ7 =>
  some σ7
set_option maxRecDepth 100000 in
theorem b_Co_init_26 {p : Program} {l : Launch} {e : Env} {s : State} {m : MethodId} {args : Array Value} {below : List Frame} {meth : Method} {c : Code} {DD : DT} {σ0 σz : Hp} (X : CX p s m args c prog_3_method_1_code 3 (dm σ0) DD y_Co_init.cls) (hret : meth.sig.returnType = none) (hlk : meth.locks = false) (hnm : meth.name = y_Co_init.name) (n : Nat)   (v0 : Option Nat) (v2 : Int32) (σ : Hp) (hf : f_Co_init_26 n  v0 v2 σ = some σz) : GG p l e rm_Co_init s m args below meth c 3 (dm σ0) DD (MQ below (Post DD σ0 none σz) args s rm_Co_init.cells rm_Co_init.slots (dm σ0)) 0 0 σ 26 [(0, tR v0), (2, tI v2)] [] := by
  unfold f_Co_init_26 at hf
  refine r_aload_n X d_Co_init_26 rfl 0 rfl ?_
  refine r_iload_n X d_Co_init_27 rfl 1 rfl ?_
  obtain ⟨σ4, h5, hf⟩ := obind hf
  refine r_stF_I (ci := 2) (k := 0) X h5 (Nat.le_of_ble_eq_true rfl) (Nat.le_of_ble_eq_true rfl) rfl rfl rfl hnm rfl q121 d_Co_init_28 ?_
  refine r_aload_n X d_Co_init_31 rfl 0 rfl ?_
  refine r_iconst (v := 4) X d_Co_init_32 (by decide) ?_
  refine r_iload_n X d_Co_init_33 rfl 1 rfl ?_
  refine r_imul X d_Co_init_34 ?_
  refine r_bipush (v := 8) X d_Co_init_35 (by decide) ?_
  refine r_idiv X d_Co_init_37 (by decide) ?_
  have hz6 : ¬ (((4 * v2) / 8) < 0 ∨ 4096 < ((4 * v2) / 8).toNatClampNeg) := by
    intro z
    have hf := (if_pos z).symm.trans hf
    cases hf
  have hf := (if_neg hz6).symm.trans hf
  refine r_newa_I X 4096 hz6 (by decide) (Nat.le_of_ble_eq_true rfl) (Nat.le_of_ble_eq_true rfl) d_Co_init_38 q72 ?_
  obtain ⟨σ7, h8, hf⟩ := obind hf
  refine r_stF_R (ci := 2) (k := 1) X h8 (Nat.le_of_ble_eq_true rfl) (Nat.le_of_ble_eq_true rfl) rfl rfl rfl hnm rfl q122 d_Co_init_40 ?_
  cases hf
  refine r_widen (kc2 := rm_Co_init.cells) (ks2 := rm_Co_init.slots) (Nat.le_of_ble_eq_true rfl) (Nat.le_of_ble_eq_true rfl) ?_
  exact r_vret X hret hlk d_Co_init_43

def f_Co_init_7 (n : Nat)  : Nat → Option Nat → Int32 → Int32 → Hp → Option Hp
  | 0, _, _, _, _ => none
  | i + 1, v0, v1, v2, σ =>
    if v1 ≤ v2 then
    (
      f_Co_init_26 n  v0 v2 σ)
    else
    (
      if 8192 ≤ v2 then
      (
        f_Co_init_26 n  v0 v2 σ)
      else
      (
        f_Co_init_7 n i v0 v1 (v2 * 2) σ))
set_option maxRecDepth 100000 in
theorem b_Co_init_7 {p : Program} {l : Launch} {e : Env} {s : State} {m : MethodId} {args : Array Value} {below : List Frame} {meth : Method} {c : Code} {DD : DT} {σ0 σz : Hp} (X : CX p s m args c prog_3_method_1_code 3 (dm σ0) DD y_Co_init.cls) (hret : meth.sig.returnType = none) (hlk : meth.locks = false) (hnm : meth.name = y_Co_init.name) (n : Nat)   : ∀ (i : Nat) (v0 : Option Nat) (v1 : Int32) (v2 : Int32) (σ : Hp) (hf : f_Co_init_7 n  i v0 v1 v2 σ = some σz), GG p l e rm_Co_init s m args below meth c 3 (dm σ0) DD (MQ below (Post DD σ0 none σz) args s rm_Co_init.cells rm_Co_init.slots (dm σ0)) 0 0 σ 7 [(0, tR v0), (1, tI v1), (2, tI v2)] [] := by
  intro i
  induction i with
  | zero => intro v0 v1 v2 σ hf; cases hf
  | succ i ih =>
    intro v0 v1 v2 σ hf
    simp only [f_Co_init_7] at hf
    refine r_iload_n X d_Co_init_7 rfl 2 rfl ?_
    refine r_iload_n X d_Co_init_8 rfl 1 rfl ?_
    refine r_icmp_ge (tgt := 26) X d_Co_init_9 (by decide) (fun hc3 => ?_) (fun hc3 => ?_)
    · have hf := (if_pos hc3).symm.trans hf
      refine r_widen (kc2 := 0) (ks2 := 0) (Nat.le_of_ble_eq_true rfl) (Nat.le_of_ble_eq_true rfl) ?_
      refine r_sub [0, 2] (lv' := [(0, tR v0), (2, tI v2)]) rfl ?_
      exact b_Co_init_26 X hret hlk hnm n   v0 v2 σ hf
    · have hf := (if_neg hc3).symm.trans hf
      refine r_iload_n X d_Co_init_12 rfl 2 rfl ?_
      refine r_sipush (v := 8192) X d_Co_init_13 (by decide) ?_
      refine r_icmp_ge (tgt := 26) X d_Co_init_16 (by decide) (fun hc9 => ?_) (fun hc9 => ?_)
      · have hf := (if_pos hc9).symm.trans hf
        refine r_widen (kc2 := 0) (ks2 := 0) (Nat.le_of_ble_eq_true rfl) (Nat.le_of_ble_eq_true rfl) ?_
        refine r_sub [0, 2] (lv' := [(0, tR v0), (2, tI v2)]) rfl ?_
        exact b_Co_init_26 X hret hlk hnm n   v0 v2 σ hf
      · have hf := (if_neg hc9).symm.trans hf
        refine r_iload_n X d_Co_init_19 rfl 2 rfl ?_
        refine r_iconst (v := 2) X d_Co_init_20 (by decide) ?_
        refine r_imul X d_Co_init_21 ?_
        refine r_istore_n (lv' := [(0, tR v0), (1, tI v1), (2, tI (v2 * 2))]) X [1, 2, 0] d_Co_init_22 rfl (Nat.le_of_ble_eq_true rfl) rfl ?_
        refine r_goto (tgt := 7) X d_Co_init_23 (by decide) ?_
        refine r_widen (kc2 := 0) (ks2 := 0) (Nat.le_of_ble_eq_true rfl) (Nat.le_of_ble_eq_true rfl) ?_
        refine r_sub [0, 1, 2] (lv' := [(0, tR v0), (1, tI v1), (2, tI (v2 * 2))]) rfl ?_
        exact ih v0 v1 (v2 * 2) σ hf

def f_Co_init (n : Nat) (v0 : Option Nat) (v1 : Int32) (σ : Hp) : Option Hp :=
  Option.bind v0 fun x1 =>
  f_Co_init_7 n  n v0 v1 8 σ
set_option maxRecDepth 100000 in
theorem c_Co_init {l : Launch} {DD : DT} (n : Nat) (v0 : Option Nat) (v1 : Int32) {σ0 σz : Hp} (hf : f_Co_init n v0 v1 σ0 = some σz) : CT l DD y_Co_init prog_3_method_1_code 3 none rm_Co_init [tR v0, tI v1] σ0 none σz := by
  refine r_met (by decide) (Nat.le_of_ble_eq_true rfl) ?_
  intro p e s m args below meth c X hret hlk hnm
  unfold f_Co_init at hf
  refine r_aload_n X d_Co_init_0 rfl 0 rfl ?_
  obtain ⟨x1, h2, hf⟩ := obind hf
  refine r_objInit X h2 q120 q26 q27 (Nat.le_of_ble_eq_true rfl) (Nat.le_of_ble_eq_true rfl) d_Co_init_1 ?_
  refine r_bipush (v := 8) X d_Co_init_4 (by decide) ?_
  refine r_istore_n (lv' := [(0, tR v0), (1, tI v1), (2, tI 8)]) X [1, 2, 0] d_Co_init_6 rfl (Nat.le_of_ble_eq_true rfl) rfl ?_
  refine r_widen (kc2 := 0) (ks2 := 0) (Nat.le_of_ble_eq_true rfl) (Nat.le_of_ble_eq_true rfl) ?_
  refine r_sub [0, 1, 2] (lv' := [(0, tR v0), (1, tI v1), (2, tI 8)]) rfl ?_
  exact b_Co_init_7 X hret hlk hnm n   n v0 v1 8 σ0 hf

def f_Co_placeOf (v0 : Option Nat) (v1 : Int32) (v2 : Int32) (σ : Hp) : Option (Int32 × Hp) :=
  Option.bind (ld_I σ v0 2 0) fun x1 =>
  Option.bind (ix_ v1 4) fun x3 =>
  Option.bind (ld_I σ v0 2 0) fun x5 =>
  some ((v1 * x1) + ((iushr_ ((v2 + 1) * (oddn x3)) 7) &&& (x5 - 1)), σ)
set_option maxRecDepth 100000 in
theorem c_Co_placeOf {l : Launch} {DD : DT} (v0 : Option Nat) (v1 : Int32) (v2 : Int32) {σ0 σz : Hp} {rz : Int32} (hf : f_Co_placeOf v0 v1 v2 σ0 = some (rz, σz)) : CT l DD y_Co_placeOf prog_3_method_4_code 3 (some .int) rm_Co_placeOf [tR v0, tI v1, tI v2] σ0 (some (tI rz)) σz := by
  refine r_met (by decide) (Nat.le_of_ble_eq_true rfl) ?_
  intro p e s m args below meth c X hret hlk hnm
  unfold f_Co_placeOf at hf
  refine r_iload_n X d_Co_placeOf_0 rfl 1 rfl ?_
  refine r_aload_n X d_Co_placeOf_1 rfl 0 rfl ?_
  obtain ⟨x1, h2, hf⟩ := obind hf
  refine r_ld_I (ci := 2) (k := 0) X h2 (Nat.le_of_ble_eq_true rfl) (Nat.le_of_ble_eq_true rfl) (Or.inl rfl) rfl q121 d_Co_placeOf_2 ?_
  refine r_imul X d_Co_placeOf_5 ?_
  refine r_iload_n X d_Co_placeOf_6 rfl 2 rfl ?_
  refine r_iconst (v := 1) X d_Co_placeOf_7 (by decide) ?_
  refine r_iadd X d_Co_placeOf_8 ?_
  refine r_odd X q333 d_Co_placeOf_9 ?_
  refine r_iload_n X d_Co_placeOf_12 rfl 1 rfl ?_
  obtain ⟨x3, h4, hf⟩ := obind hf
  refine r_oddI X h4 d_Co_placeOf_13 ?_
  refine r_imul X d_Co_placeOf_14 ?_
  refine r_bipush (v := 7) X d_Co_placeOf_15 (by decide) ?_
  refine r_iushr X d_Co_placeOf_17 ?_
  refine r_aload_n X d_Co_placeOf_18 rfl 0 rfl ?_
  obtain ⟨x5, h6, hf⟩ := obind hf
  refine r_ld_I (ci := 2) (k := 0) X h6 (Nat.le_of_ble_eq_true rfl) (Nat.le_of_ble_eq_true rfl) (Or.inl rfl) rfl q121 d_Co_placeOf_19 ?_
  refine r_iconst (v := 1) X d_Co_placeOf_22 (by decide) ?_
  refine r_isub X d_Co_placeOf_23 ?_
  refine r_iand X d_Co_placeOf_24 ?_
  refine r_iadd X d_Co_placeOf_25 ?_
  cases hf
  refine r_widen (kc2 := rm_Co_placeOf.cells) (ks2 := rm_Co_placeOf.slots) (Nat.le_of_ble_eq_true rfl) (Nat.le_of_ble_eq_true rfl) ?_
  exact r_iret X hret hlk d_Co_placeOf_26

def f_Co_halve_4 (n : Nat)  : Nat → Option Nat → Int32 → Int32 → Hp → Option Hp
  | 0, _, _, _, _ => none
  | i + 1, v0, v1, v2, σ =>
    Option.bind (ld_R σ v0 2 1) fun x1 =>
    Option.bind (al_N σ x1) fun x3 =>
    if x3 ≤ v2 then
    (
      Option.bind (ld_I σ v0 2 2) fun x6 =>
      Option.bind (st_I σ v0 2 2 ((x6 - (v1 / 4)) / 2)) fun σ8 =>
      some σ8)
    else
    (
      Option.bind (ld_R σ v0 2 1) fun x10 =>
      Option.bind (al_I σ 0 x10 v2) fun x12 =>
      pb (f_In_bitCount (x12 &&& 286331153) σ) fun x16 σ15 =>
      Option.bind (ld_R σ15 v0 2 1) fun x17 =>
      Option.bind (ld_R σ15 v0 2 1) fun x19 =>
      Option.bind (al_I σ15 0 x19 v2) fun x21 =>
      Option.bind (as_I σ15 0 x17 v2 ((iushr_ x21 1) &&& 2004318071)) fun σ23 =>
      f_Co_halve_4 n i v0 (v1 + x16) (v2 + 1) σ23)
set_option maxRecDepth 100000 in
theorem b_Co_halve_4 {p : Program} {l : Launch} {e : Env} {s : State} {m : MethodId} {args : Array Value} {below : List Frame} {meth : Method} {c : Code} {DD : DT} {σ0 σz : Hp} (X : CX p s m args c prog_3_method_5_code 3 (dm σ0) DD y_Co_halve.cls) (hret : meth.sig.returnType = none) (hlk : meth.locks = false) (hnm : meth.name = y_Co_halve.name) (n : Nat)   : ∀ (i : Nat) (v0 : Option Nat) (v1 : Int32) (v2 : Int32) (σ : Hp) (hf : f_Co_halve_4 n  i v0 v1 v2 σ = some σz), GG p l e rm_Co_halve s m args below meth c 3 (dm σ0) DD (MQ below (Post DD σ0 none σz) args s rm_Co_halve.cells rm_Co_halve.slots (dm σ0)) 0 0 σ 4 [(0, tR v0), (1, tI v1), (2, tI v2)] [] := by
  intro i
  induction i with
  | zero => intro v0 v1 v2 σ hf; cases hf
  | succ i ih =>
    intro v0 v1 v2 σ hf
    simp only [f_Co_halve_4] at hf
    refine r_iload_n X d_Co_halve_4 rfl 2 rfl ?_
    refine r_aload_n X d_Co_halve_5 rfl 0 rfl ?_
    obtain ⟨x1, h2, hf⟩ := obind hf
    refine r_ld_R (ci := 2) (k := 1) X h2 (Nat.le_of_ble_eq_true rfl) (Nat.le_of_ble_eq_true rfl) rfl rfl q122 d_Co_halve_6 ?_
    obtain ⟨x3, h4, hf⟩ := obind hf
    refine r_al_N X h4 d_Co_halve_9 ?_
    refine r_icmp_ge (tgt := 51) X d_Co_halve_10 (by decide) (fun hc5 => ?_) (fun hc5 => ?_)
    · have hf := (if_pos hc5).symm.trans hf
      refine r_aload_n X d_Co_halve_51 rfl 0 rfl ?_
      refine r_aload_n X d_Co_halve_52 rfl 0 rfl ?_
      obtain ⟨x6, h7, hf⟩ := obind hf
      refine r_ld_I (ci := 2) (k := 2) X h7 (Nat.le_of_ble_eq_true rfl) (Nat.le_of_ble_eq_true rfl) (Or.inl rfl) rfl q123 d_Co_halve_53 ?_
      refine r_iload_n X d_Co_halve_56 rfl 1 rfl ?_
      refine r_iconst (v := 4) X d_Co_halve_57 (by decide) ?_
      refine r_idiv X d_Co_halve_58 (by decide) ?_
      refine r_isub X d_Co_halve_59 ?_
      refine r_iconst (v := 2) X d_Co_halve_60 (by decide) ?_
      refine r_idiv X d_Co_halve_61 (by decide) ?_
      obtain ⟨σ8, h9, hf⟩ := obind hf
      refine r_st_I (ci := 2) (k := 2) X h9 (Nat.le_of_ble_eq_true rfl) (Nat.le_of_ble_eq_true rfl) rfl rfl rfl q123 d_Co_halve_62 ?_
      cases hf
      refine r_widen (kc2 := rm_Co_halve.cells) (ks2 := rm_Co_halve.slots) (Nat.le_of_ble_eq_true rfl) (Nat.le_of_ble_eq_true rfl) ?_
      exact r_vret X hret hlk d_Co_halve_65
    · have hf := (if_neg hc5).symm.trans hf
      refine r_iload_n X d_Co_halve_13 rfl 1 rfl ?_
      refine r_aload_n X d_Co_halve_14 rfl 0 rfl ?_
      obtain ⟨x10, h11, hf⟩ := obind hf
      refine r_ld_R (ci := 2) (k := 1) X h11 (Nat.le_of_ble_eq_true rfl) (Nat.le_of_ble_eq_true rfl) rfl rfl q122 d_Co_halve_15 ?_
      refine r_iload_n X d_Co_halve_18 rfl 2 rfl ?_
      obtain ⟨x12, h13, hf⟩ := obind hf
      refine r_al_I X h13 d_Co_halve_19 ?_
      refine r_ldc X d_Co_halve_20 q339 ?_
      refine r_iand X d_Co_halve_22 ?_
      obtain ⟨x16, σ15, h14, hf⟩ := pbind hf
      refine r_callS (st := [tI v1]) X [tI (x12 &&& 286331153)] q340 q341 (c_In_bitCount (x12 &&& 286331153) h14) q342 q16 y_In_bitCount_ok rfl ⟨Nat.le_of_ble_eq_true rfl, Nat.le_of_ble_eq_true rfl⟩ (Nat.le_of_ble_eq_true rfl) ⟨Nat.le_of_ble_eq_true rfl, Nat.le_of_ble_eq_true rfl⟩ d_Co_halve_23 ?_
      refine r_iadd X d_Co_halve_26 ?_
      refine r_istore_n (lv' := [(0, tR v0), (1, tI (v1 + x16)), (2, tI v2)]) X [1, 0, 2] d_Co_halve_27 rfl (Nat.le_of_ble_eq_true rfl) rfl ?_
      refine r_aload_n X d_Co_halve_28 rfl 0 rfl ?_
      obtain ⟨x17, h18, hf⟩ := obind hf
      refine r_ld_R (ci := 2) (k := 1) X h18 (Nat.le_of_ble_eq_true rfl) (Nat.le_of_ble_eq_true rfl) rfl rfl q122 d_Co_halve_29 ?_
      refine r_iload_n X d_Co_halve_32 rfl 2 rfl ?_
      refine r_aload_n X d_Co_halve_33 rfl 0 rfl ?_
      obtain ⟨x19, h20, hf⟩ := obind hf
      refine r_ld_R (ci := 2) (k := 1) X h20 (Nat.le_of_ble_eq_true rfl) (Nat.le_of_ble_eq_true rfl) rfl rfl q122 d_Co_halve_34 ?_
      refine r_iload_n X d_Co_halve_37 rfl 2 rfl ?_
      obtain ⟨x21, h22, hf⟩ := obind hf
      refine r_al_I X h22 d_Co_halve_38 ?_
      refine r_iconst (v := 1) X d_Co_halve_39 (by decide) ?_
      refine r_iushr X d_Co_halve_40 ?_
      refine r_ldc X d_Co_halve_41 q346 ?_
      refine r_iand X d_Co_halve_43 ?_
      obtain ⟨σ23, h24, hf⟩ := obind hf
      refine r_as_I X h24 d_Co_halve_44 ?_
      refine r_iinc (lv' := [(0, tR v0), (1, tI (v1 + x16)), (2, tI (v2 + 1))]) (j := 2) X [1, 2, 0] d_Co_halve_45 rfl rfl (Nat.le_of_ble_eq_true rfl) rfl ?_
      refine r_goto (tgt := 4) X d_Co_halve_48 (by decide) ?_
      refine r_widen (kc2 := 0) (ks2 := 0) (Nat.le_of_ble_eq_true rfl) (Nat.le_of_ble_eq_true rfl) ?_
      refine r_sub [0, 1, 2] (lv' := [(0, tR v0), (1, tI (v1 + x16)), (2, tI (v2 + 1))]) rfl ?_
      exact ih v0 (v1 + x16) (v2 + 1) σ23 hf

def f_Co_halve (n : Nat) (v0 : Option Nat) (σ : Hp) : Option Hp :=
  f_Co_halve_4 n  n v0 0 0 σ
set_option maxRecDepth 100000 in
theorem c_Co_halve {l : Launch} {DD : DT} (n : Nat) (v0 : Option Nat) {σ0 σz : Hp} (hf : f_Co_halve n v0 σ0 = some σz) : CT l DD y_Co_halve prog_3_method_5_code 3 none rm_Co_halve [tR v0] σ0 none σz := by
  refine r_met (by decide) (Nat.le_of_ble_eq_true rfl) ?_
  intro p e s m args below meth c X hret hlk hnm
  unfold f_Co_halve at hf
  refine r_iconst (v := 0) X d_Co_halve_0 (by decide) ?_
  refine r_istore_n (lv' := [(0, tR v0), (1, tI 0)]) X [1, 0] d_Co_halve_1 rfl (Nat.le_of_ble_eq_true rfl) rfl ?_
  refine r_iconst (v := 0) X d_Co_halve_2 (by decide) ?_
  refine r_istore_n (lv' := [(0, tR v0), (1, tI 0), (2, tI 0)]) X [1, 2, 0] d_Co_halve_3 rfl (Nat.le_of_ble_eq_true rfl) rfl ?_
  refine r_widen (kc2 := 0) (ks2 := 0) (Nat.le_of_ble_eq_true rfl) (Nat.le_of_ble_eq_true rfl) ?_
  refine r_sub [0, 1, 2] (lv' := [(0, tR v0), (1, tI 0), (2, tI 0)]) rfl ?_
  exact b_Co_halve_4 X hret hlk hnm n   n v0 0 0 σ0 hf

def f_Co_add_64 (n : Nat) (rec4 : Option Nat → Int32 → Int32 → Int32 → Hp → Option Hp) (v0 : Option Nat) (v1 : Int32) (v2 : Int32) (v3 : Int32) (σ : Hp) : Option Hp :=
  rec4 v0 v1 v2 (v3 + 1) σ
set_option maxRecDepth 100000 in
theorem b_Co_add_64 {p : Program} {l : Launch} {e : Env} {s : State} {m : MethodId} {args : Array Value} {below : List Frame} {meth : Method} {c : Code} {DD : DT} {σ0 σz : Hp} (X : CX p s m args c prog_3_method_2_code 6 (dm σ0) DD y_Co_add.cls) (hret : meth.sig.returnType = none) (hlk : meth.locks = false) (hnm : meth.name = y_Co_add.name) (n : Nat) (rec4 : Option Nat → Int32 → Int32 → Int32 → Hp → Option Hp) (hrec4 : ∀ (v0 : Option Nat) (v1 : Int32) (v2 : Int32) (v3 : Int32) (σ : Hp), rec4 v0 v1 v2 v3 σ = some σz → GG p l e rm_Co_add s m args below meth c 6 (dm σ0) DD (MQ below (Post DD σ0 none σz) args s rm_Co_add.cells rm_Co_add.slots (dm σ0)) 0 0 σ 4 [(0, tR v0), (1, tI v1), (2, tI v2), (3, tI v3)] []) (v0 : Option Nat) (v1 : Int32) (v2 : Int32) (v3 : Int32) (σ : Hp) (hf : f_Co_add_64 n rec4 v0 v1 v2 v3 σ = some σz) : GG p l e rm_Co_add s m args below meth c 6 (dm σ0) DD (MQ below (Post DD σ0 none σz) args s rm_Co_add.cells rm_Co_add.slots (dm σ0)) 0 0 σ 64 [(0, tR v0), (1, tI v1), (2, tI v2), (3, tI v3)] [] := by
  unfold f_Co_add_64 at hf
  refine r_iinc (lv' := [(0, tR v0), (1, tI v1), (2, tI v2), (3, tI (v3 + 1))]) (j := 3) X [1, 2, 3, 0] d_Co_add_64 rfl rfl (Nat.le_of_ble_eq_true rfl) rfl ?_
  refine r_goto (tgt := 4) X d_Co_add_67 (by decide) ?_
  refine r_widen (kc2 := 0) (ks2 := 0) (Nat.le_of_ble_eq_true rfl) (Nat.le_of_ble_eq_true rfl) ?_
  refine r_sub [0, 1, 2, 3] (lv' := [(0, tR v0), (1, tI v1), (2, tI v2), (3, tI (v3 + 1))]) rfl ?_
  exact hrec4 v0 v1 v2 (v3 + 1) σ hf

def f_Co_add_4 (n : Nat)  : Nat → Option Nat → Int32 → Int32 → Int32 → Hp → Option Hp
  | 0, _, _, _, _, _ => none
  | i + 1, v0, v1, v2, v3, σ =>
    if 4 ≤ v3 then
    (
      if v2 = 0 then
      (
        some σ)
      else
      (
        Option.bind (ld_I σ v0 2 2) fun x3 =>
        Option.bind (st_I σ v0 2 2 (x3 + 1)) fun σ5 =>
        Option.bind (ld_I σ5 v0 2 2) fun x7 =>
        Option.bind (ld_I σ5 v0 2 0) fun x9 =>
        if x7 < (10 * x9) then
        (
          some σ5)
        else
        (
          Option.bind (is_O σ5 v0 2) fun x13 =>
          Option.bind (f_Co_halve n v0 σ5) fun σ15 =>
          some σ15)))
    else
    (
      Option.bind (is_O σ v0 2) fun x17 =>
      pb (f_Co_placeOf v0 v3 v1 σ) fun x20 σ19 =>
      Option.bind (ld_R σ19 v0 2 1) fun x21 =>
      Option.bind (al_I σ19 0 x21 (iushr_ x20 3)) fun x23 =>
      if 15 ≤ ((iushr_ x23 ((x20 &&& 7) * 4)) &&& 15) then
      (
        f_Co_add_64 n (f_Co_add_4 n i) v0 v1 v2 v3 σ19)
      else
      (
        Option.bind (ld_R σ19 v0 2 1) fun x26 =>
        Option.bind (al_I σ19 0 x26 (iushr_ x20 3)) fun x28 =>
        Option.bind (as_I σ19 0 x26 (iushr_ x20 3) (x28 + (1 <<< (((x20 &&& 7) * 4) &&& 31)))) fun σ30 =>
        f_Co_add_64 n (f_Co_add_4 n i) v0 v1 1 v3 σ30))
set_option maxRecDepth 100000 in
theorem b_Co_add_4 {p : Program} {l : Launch} {e : Env} {s : State} {m : MethodId} {args : Array Value} {below : List Frame} {meth : Method} {c : Code} {DD : DT} {σ0 σz : Hp} (X : CX p s m args c prog_3_method_2_code 6 (dm σ0) DD y_Co_add.cls) (hret : meth.sig.returnType = none) (hlk : meth.locks = false) (hnm : meth.name = y_Co_add.name) (n : Nat)   : ∀ (i : Nat) (v0 : Option Nat) (v1 : Int32) (v2 : Int32) (v3 : Int32) (σ : Hp) (hf : f_Co_add_4 n  i v0 v1 v2 v3 σ = some σz), GG p l e rm_Co_add s m args below meth c 6 (dm σ0) DD (MQ below (Post DD σ0 none σz) args s rm_Co_add.cells rm_Co_add.slots (dm σ0)) 0 0 σ 4 [(0, tR v0), (1, tI v1), (2, tI v2), (3, tI v3)] [] := by
  intro i
  induction i with
  | zero => intro v0 v1 v2 v3 σ hf; cases hf
  | succ i ih =>
    intro v0 v1 v2 v3 σ hf
    simp only [f_Co_add_4] at hf
    refine r_iload_n X d_Co_add_4 rfl 3 rfl ?_
    refine r_iconst (v := 4) X d_Co_add_5 (by decide) ?_
    refine r_icmp_ge (tgt := 70) X d_Co_add_6 (by decide) (fun hc1 => ?_) (fun hc1 => ?_)
    · have hf := (if_pos hc1).symm.trans hf
      refine r_iload_n X d_Co_add_70 rfl 2 rfl ?_
      refine r_if_eq (tgt := 102) X d_Co_add_71 (by decide) (fun hc2 => ?_) (fun hc2 => ?_)
      · have hf := (if_pos hc2).symm.trans hf
        cases hf
        refine r_widen (kc2 := rm_Co_add.cells) (ks2 := rm_Co_add.slots) (Nat.le_of_ble_eq_true rfl) (Nat.le_of_ble_eq_true rfl) ?_
        exact r_vret X hret hlk d_Co_add_102
      · have hf := (if_neg hc2).symm.trans hf
        refine r_aload_n X d_Co_add_74 rfl 0 rfl ?_
        refine r_dup X d_Co_add_75 rfl ?_
        obtain ⟨x3, h4, hf⟩ := obind hf
        refine r_ld_I (ci := 2) (k := 2) X h4 (Nat.le_of_ble_eq_true rfl) (Nat.le_of_ble_eq_true rfl) (Or.inl rfl) rfl q123 d_Co_add_76 ?_
        refine r_iconst (v := 1) X d_Co_add_79 (by decide) ?_
        refine r_iadd X d_Co_add_80 ?_
        obtain ⟨σ5, h6, hf⟩ := obind hf
        refine r_st_I (ci := 2) (k := 2) X h6 (Nat.le_of_ble_eq_true rfl) (Nat.le_of_ble_eq_true rfl) rfl rfl rfl q123 d_Co_add_81 ?_
        refine r_aload_n X d_Co_add_84 rfl 0 rfl ?_
        obtain ⟨x7, h8, hf⟩ := obind hf
        refine r_ld_I (ci := 2) (k := 2) X h8 (Nat.le_of_ble_eq_true rfl) (Nat.le_of_ble_eq_true rfl) (Or.inl rfl) rfl q123 d_Co_add_85 ?_
        refine r_bipush (v := 10) X d_Co_add_88 (by decide) ?_
        refine r_aload_n X d_Co_add_90 rfl 0 rfl ?_
        obtain ⟨x9, h10, hf⟩ := obind hf
        refine r_ld_I (ci := 2) (k := 0) X h10 (Nat.le_of_ble_eq_true rfl) (Nat.le_of_ble_eq_true rfl) (Or.inl rfl) rfl q121 d_Co_add_91 ?_
        refine r_imul X d_Co_add_94 ?_
        refine r_icmp_lt (tgt := 102) X d_Co_add_95 (by decide) (fun hc11 => ?_) (fun hc11 => ?_)
        · have hf := (if_pos hc11).symm.trans hf
          cases hf
          refine r_widen (kc2 := rm_Co_add.cells) (ks2 := rm_Co_add.slots) (Nat.le_of_ble_eq_true rfl) (Nat.le_of_ble_eq_true rfl) ?_
          exact r_vret X hret hlk d_Co_add_102
        · have hf := (if_neg hc11).symm.trans hf
          refine r_aload_n X d_Co_add_98 rfl 0 rfl ?_
          obtain ⟨x13, h12, hf⟩ := obind hf
          obtain ⟨σ15, h14, hf⟩ := obind hf
          refine r_callV (st := []) X [] (ci := 2) h12 (Nat.le_of_ble_eq_true rfl) q335 q336 q337 (c_Co_halve n v0 h14) q338 q7 y_Co_halve_ok rfl ⟨Nat.le_of_ble_eq_true rfl, Nat.le_of_ble_eq_true rfl⟩ (Nat.le_of_ble_eq_true rfl) ⟨Nat.le_of_ble_eq_true rfl, Nat.le_of_ble_eq_true rfl⟩ d_Co_add_99 ?_
          cases hf
          refine r_widen (kc2 := rm_Co_add.cells) (ks2 := rm_Co_add.slots) (Nat.le_of_ble_eq_true rfl) (Nat.le_of_ble_eq_true rfl) ?_
          exact r_vret X hret hlk d_Co_add_102
    · have hf := (if_neg hc1).symm.trans hf
      refine r_aload_n X d_Co_add_9 rfl 0 rfl ?_
      refine r_iload_n X d_Co_add_10 rfl 3 rfl ?_
      refine r_iload_n X d_Co_add_11 rfl 1 rfl ?_
      obtain ⟨x17, h16, hf⟩ := obind hf
      obtain ⟨x20, σ19, h18, hf⟩ := pbind hf
      refine r_callV (st := []) X [tI v3, tI v1] (ci := 2) h16 (Nat.le_of_ble_eq_true rfl) q329 q330 q331 (c_Co_placeOf v0 v3 v1 h18) q332 q7 y_Co_placeOf_ok rfl ⟨Nat.le_of_ble_eq_true rfl, Nat.le_of_ble_eq_true rfl⟩ (Nat.le_of_ble_eq_true rfl) ⟨Nat.le_of_ble_eq_true rfl, Nat.le_of_ble_eq_true rfl⟩ d_Co_add_12 ?_
      refine r_istore (lv' := [(0, tR v0), (1, tI v1), (2, tI v2), (3, tI v3), (4, tI x20)]) X [1, 2, 3, 4, 0] d_Co_add_15 (Nat.le_of_ble_eq_true rfl) rfl ?_
      refine r_iload X d_Co_add_17 4 rfl ?_
      refine r_bipush (v := 7) X d_Co_add_19 (by decide) ?_
      refine r_iand X d_Co_add_21 ?_
      refine r_iconst (v := 4) X d_Co_add_22 (by decide) ?_
      refine r_imul X d_Co_add_23 ?_
      refine r_istore (lv' := [(0, tR v0), (1, tI v1), (2, tI v2), (3, tI v3), (4, tI x20), (5, tI ((x20 &&& 7) * 4))]) X [1, 2, 3, 4, 5, 0] d_Co_add_24 (Nat.le_of_ble_eq_true rfl) rfl ?_
      refine r_aload_n X d_Co_add_26 rfl 0 rfl ?_
      obtain ⟨x21, h22, hf⟩ := obind hf
      refine r_ld_R (ci := 2) (k := 1) X h22 (Nat.le_of_ble_eq_true rfl) (Nat.le_of_ble_eq_true rfl) rfl rfl q122 d_Co_add_27 ?_
      refine r_iload X d_Co_add_30 4 rfl ?_
      refine r_iconst (v := 3) X d_Co_add_32 (by decide) ?_
      refine r_iushr X d_Co_add_33 ?_
      obtain ⟨x23, h24, hf⟩ := obind hf
      refine r_al_I X h24 d_Co_add_34 ?_
      refine r_iload X d_Co_add_35 5 rfl ?_
      refine r_iushr X d_Co_add_37 ?_
      refine r_bipush (v := 15) X d_Co_add_38 (by decide) ?_
      refine r_iand X d_Co_add_40 ?_
      refine r_bipush (v := 15) X d_Co_add_41 (by decide) ?_
      refine r_icmp_ge (tgt := 64) X d_Co_add_43 (by decide) (fun hc25 => ?_) (fun hc25 => ?_)
      · have hf := (if_pos hc25).symm.trans hf
        refine r_widen (kc2 := 0) (ks2 := 0) (Nat.le_of_ble_eq_true rfl) (Nat.le_of_ble_eq_true rfl) ?_
        refine r_sub [0, 1, 2, 3] (lv' := [(0, tR v0), (1, tI v1), (2, tI v2), (3, tI v3)]) rfl ?_
        exact b_Co_add_64 X hret hlk hnm n (f_Co_add_4 n i) ih v0 v1 v2 v3 σ19 hf
      · have hf := (if_neg hc25).symm.trans hf
        refine r_aload_n X d_Co_add_46 rfl 0 rfl ?_
        obtain ⟨x26, h27, hf⟩ := obind hf
        refine r_ld_R (ci := 2) (k := 1) X h27 (Nat.le_of_ble_eq_true rfl) (Nat.le_of_ble_eq_true rfl) rfl rfl q122 d_Co_add_47 ?_
        refine r_iload X d_Co_add_50 4 rfl ?_
        refine r_iconst (v := 3) X d_Co_add_52 (by decide) ?_
        refine r_iushr X d_Co_add_53 ?_
        refine r_dup2 X d_Co_add_54 rfl rfl ?_
        obtain ⟨x28, h29, hf⟩ := obind hf
        refine r_al_I X h29 d_Co_add_55 ?_
        refine r_iconst (v := 1) X d_Co_add_56 (by decide) ?_
        refine r_iload X d_Co_add_57 5 rfl ?_
        refine r_ishl X d_Co_add_59 ?_
        refine r_iadd X d_Co_add_60 ?_
        obtain ⟨σ30, h31, hf⟩ := obind hf
        refine r_as_I X h31 d_Co_add_61 ?_
        refine r_iconst (v := 1) X d_Co_add_62 (by decide) ?_
        refine r_istore_n (lv' := [(0, tR v0), (1, tI v1), (2, tI 1), (3, tI v3)]) X [1, 2, 0, 3] d_Co_add_63 rfl (Nat.le_of_ble_eq_true rfl) rfl ?_
        refine r_widen (kc2 := 0) (ks2 := 0) (Nat.le_of_ble_eq_true rfl) (Nat.le_of_ble_eq_true rfl) ?_
        refine r_sub [0, 1, 2, 3] (lv' := [(0, tR v0), (1, tI v1), (2, tI 1), (3, tI v3)]) rfl ?_
        exact b_Co_add_64 X hret hlk hnm n (f_Co_add_4 n i) ih v0 v1 1 v3 σ30 hf

def f_Co_add (n : Nat) (v0 : Option Nat) (v1 : Int32) (σ : Hp) : Option Hp :=
  f_Co_add_4 n  n v0 v1 0 0 σ
set_option maxRecDepth 100000 in
theorem c_Co_add {l : Launch} {DD : DT} (n : Nat) (v0 : Option Nat) (v1 : Int32) {σ0 σz : Hp} (hf : f_Co_add n v0 v1 σ0 = some σz) : CT l DD y_Co_add prog_3_method_2_code 6 none rm_Co_add [tR v0, tI v1] σ0 none σz := by
  refine r_met (by decide) (Nat.le_of_ble_eq_true rfl) ?_
  intro p e s m args below meth c X hret hlk hnm
  unfold f_Co_add at hf
  refine r_iconst (v := 0) X d_Co_add_0 (by decide) ?_
  refine r_istore_n (lv' := [(0, tR v0), (1, tI v1), (2, tI 0)]) X [1, 2, 0] d_Co_add_1 rfl (Nat.le_of_ble_eq_true rfl) rfl ?_
  refine r_iconst (v := 0) X d_Co_add_2 (by decide) ?_
  refine r_istore_n (lv' := [(0, tR v0), (1, tI v1), (2, tI 0), (3, tI 0)]) X [1, 2, 3, 0] d_Co_add_3 rfl (Nat.le_of_ble_eq_true rfl) rfl ?_
  refine r_widen (kc2 := 0) (ks2 := 0) (Nat.le_of_ble_eq_true rfl) (Nat.le_of_ble_eq_true rfl) ?_
  refine r_sub [0, 1, 2, 3] (lv' := [(0, tR v0), (1, tI v1), (2, tI 0), (3, tI 0)]) rfl ?_
  exact b_Co_add_4 X hret hlk hnm n   n v0 v1 0 0 σ0 hf

def f_Co_leastOf_5 (n : Nat)  : Nat → Option Nat → Int32 → Int32 → Int32 → Hp → Option (Int32 × Hp)
  | 0, _, _, _, _, _ => none
  | i + 1, v0, v1, v2, v3, σ =>
    if 4 ≤ v3 then
    (
      some (v2, σ))
    else
    (
      Option.bind (is_O σ v0 2) fun x3 =>
      pb (f_Co_placeOf v0 v3 v1 σ) fun x6 σ5 =>
      Option.bind (ld_R σ5 v0 2 1) fun x7 =>
      Option.bind (al_I σ5 0 x7 (iushr_ x6 3)) fun x9 =>
      f_Co_leastOf_5 n i v0 v1 (imin_ v2 ((iushr_ x9 ((x6 &&& 7) * 4)) &&& 15)) (v3 + 1) σ5)
set_option maxRecDepth 100000 in
theorem b_Co_leastOf_5 {p : Program} {l : Launch} {e : Env} {s : State} {m : MethodId} {args : Array Value} {below : List Frame} {meth : Method} {c : Code} {DD : DT} {σ0 σz : Hp} {rz : Int32} (X : CX p s m args c prog_3_method_3_code 5 (dm σ0) DD y_Co_leastOf.cls) (hret : meth.sig.returnType = some .int) (hlk : meth.locks = false) (hnm : meth.name = y_Co_leastOf.name) (n : Nat)   : ∀ (i : Nat) (v0 : Option Nat) (v1 : Int32) (v2 : Int32) (v3 : Int32) (σ : Hp) (hf : f_Co_leastOf_5 n  i v0 v1 v2 v3 σ = some (rz, σz)), GG p l e rm_Co_leastOf s m args below meth c 5 (dm σ0) DD (MQ below (Post DD σ0 (some (tI rz)) σz) args s rm_Co_leastOf.cells rm_Co_leastOf.slots (dm σ0)) 0 0 σ 5 [(0, tR v0), (1, tI v1), (2, tI v2), (3, tI v3)] [] := by
  intro i
  induction i with
  | zero => intro v0 v1 v2 v3 σ hf; cases hf
  | succ i ih =>
    intro v0 v1 v2 v3 σ hf
    simp only [f_Co_leastOf_5] at hf
    refine r_iload_n X d_Co_leastOf_5 rfl 3 rfl ?_
    refine r_iconst (v := 4) X d_Co_leastOf_6 (by decide) ?_
    refine r_icmp_ge (tgt := 49) X d_Co_leastOf_7 (by decide) (fun hc1 => ?_) (fun hc1 => ?_)
    · have hf := (if_pos hc1).symm.trans hf
      refine r_iload_n X d_Co_leastOf_49 rfl 2 rfl ?_
      cases hf
      refine r_widen (kc2 := rm_Co_leastOf.cells) (ks2 := rm_Co_leastOf.slots) (Nat.le_of_ble_eq_true rfl) (Nat.le_of_ble_eq_true rfl) ?_
      exact r_iret X hret hlk d_Co_leastOf_50
    · have hf := (if_neg hc1).symm.trans hf
      refine r_aload_n X d_Co_leastOf_10 rfl 0 rfl ?_
      refine r_iload_n X d_Co_leastOf_11 rfl 3 rfl ?_
      refine r_iload_n X d_Co_leastOf_12 rfl 1 rfl ?_
      obtain ⟨x3, h2, hf⟩ := obind hf
      obtain ⟨x6, σ5, h4, hf⟩ := pbind hf
      refine r_callV (st := []) X [tI v3, tI v1] (ci := 2) h2 (Nat.le_of_ble_eq_true rfl) q329 q330 q331 (c_Co_placeOf v0 v3 v1 h4) q332 q7 y_Co_placeOf_ok rfl ⟨Nat.le_of_ble_eq_true rfl, Nat.le_of_ble_eq_true rfl⟩ (Nat.le_of_ble_eq_true rfl) ⟨Nat.le_of_ble_eq_true rfl, Nat.le_of_ble_eq_true rfl⟩ d_Co_leastOf_13 ?_
      refine r_istore (lv' := [(0, tR v0), (1, tI v1), (2, tI v2), (3, tI v3), (4, tI x6)]) X [1, 2, 3, 4, 0] d_Co_leastOf_16 (Nat.le_of_ble_eq_true rfl) rfl ?_
      refine r_iload_n X d_Co_leastOf_18 rfl 2 rfl ?_
      refine r_aload_n X d_Co_leastOf_19 rfl 0 rfl ?_
      obtain ⟨x7, h8, hf⟩ := obind hf
      refine r_ld_R (ci := 2) (k := 1) X h8 (Nat.le_of_ble_eq_true rfl) (Nat.le_of_ble_eq_true rfl) rfl rfl q122 d_Co_leastOf_20 ?_
      refine r_iload X d_Co_leastOf_23 4 rfl ?_
      refine r_iconst (v := 3) X d_Co_leastOf_25 (by decide) ?_
      refine r_iushr X d_Co_leastOf_26 ?_
      obtain ⟨x9, h10, hf⟩ := obind hf
      refine r_al_I X h10 d_Co_leastOf_27 ?_
      refine r_iload X d_Co_leastOf_28 4 rfl ?_
      refine r_bipush (v := 7) X d_Co_leastOf_30 (by decide) ?_
      refine r_iand X d_Co_leastOf_32 ?_
      refine r_iconst (v := 4) X d_Co_leastOf_33 (by decide) ?_
      refine r_imul X d_Co_leastOf_34 ?_
      refine r_iushr X d_Co_leastOf_35 ?_
      refine r_bipush (v := 15) X d_Co_leastOf_36 (by decide) ?_
      refine r_iand X d_Co_leastOf_38 ?_
      refine r_mmin X q419 q93 q5 q94 (Nat.le_of_ble_eq_true rfl) (Nat.le_of_ble_eq_true rfl) (Nat.le_of_ble_eq_true rfl) (Nat.le_of_ble_eq_true rfl) d_Co_leastOf_39 ?_
      refine r_istore_n (lv' := [(0, tR v0), (1, tI v1), (2, tI (imin_ v2 ((iushr_ x9 ((x6 &&& 7) * 4)) &&& 15))), (3, tI v3)]) X [1, 2, 0, 3] d_Co_leastOf_42 rfl (Nat.le_of_ble_eq_true rfl) rfl ?_
      refine r_iinc (lv' := [(0, tR v0), (1, tI v1), (2, tI (imin_ v2 ((iushr_ x9 ((x6 &&& 7) * 4)) &&& 15))), (3, tI (v3 + 1))]) (j := 3) X [1, 2, 3, 0] d_Co_leastOf_43 rfl rfl (Nat.le_of_ble_eq_true rfl) rfl ?_
      refine r_goto (tgt := 5) X d_Co_leastOf_46 (by decide) ?_
      refine r_widen (kc2 := 0) (ks2 := 0) (Nat.le_of_ble_eq_true rfl) (Nat.le_of_ble_eq_true rfl) ?_
      refine r_sub [0, 1, 2, 3] (lv' := [(0, tR v0), (1, tI v1), (2, tI (imin_ v2 ((iushr_ x9 ((x6 &&& 7) * 4)) &&& 15))), (3, tI (v3 + 1))]) rfl ?_
      exact ih v0 v1 (imin_ v2 ((iushr_ x9 ((x6 &&& 7) * 4)) &&& 15)) (v3 + 1) σ5 hf

def f_Co_leastOf (n : Nat) (v0 : Option Nat) (v1 : Int32) (σ : Hp) : Option (Int32 × Hp) :=
  f_Co_leastOf_5 n  n v0 v1 15 0 σ
set_option maxRecDepth 100000 in
theorem c_Co_leastOf {l : Launch} {DD : DT} (n : Nat) (v0 : Option Nat) (v1 : Int32) {σ0 σz : Hp} {rz : Int32} (hf : f_Co_leastOf n v0 v1 σ0 = some (rz, σz)) : CT l DD y_Co_leastOf prog_3_method_3_code 5 (some .int) rm_Co_leastOf [tR v0, tI v1] σ0 (some (tI rz)) σz := by
  refine r_met (by decide) (Nat.le_of_ble_eq_true rfl) ?_
  intro p e s m args below meth c X hret hlk hnm
  unfold f_Co_leastOf at hf
  refine r_bipush (v := 15) X d_Co_leastOf_0 (by decide) ?_
  refine r_istore_n (lv' := [(0, tR v0), (1, tI v1), (2, tI 15)]) X [1, 2, 0] d_Co_leastOf_2 rfl (Nat.le_of_ble_eq_true rfl) rfl ?_
  refine r_iconst (v := 0) X d_Co_leastOf_3 (by decide) ?_
  refine r_istore_n (lv' := [(0, tR v0), (1, tI v1), (2, tI 15), (3, tI 0)]) X [1, 2, 3, 0] d_Co_leastOf_4 rfl (Nat.le_of_ble_eq_true rfl) rfl ?_
  refine r_widen (kc2 := 0) (ks2 := 0) (Nat.le_of_ble_eq_true rfl) (Nat.le_of_ble_eq_true rfl) ?_
  refine r_sub [0, 1, 2, 3] (lv' := [(0, tR v0), (1, tI v1), (2, tI 15), (3, tI 0)]) rfl ?_
  exact b_Co_leastOf_5 X hret hlk hnm n   n v0 v1 15 0 σ0 hf

