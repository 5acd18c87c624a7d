def f_W_init (n : Nat) (v0 : Option Nat) (v1 : Int32) (v2 : Int32) (v3 : Int32) (σ : Hp) : Option Hp :=
  Option.bind v0 fun x1 =>
  Option.bind (st_R (nw_A σ (3, (1000 : Int32).toNatClampNeg, .inr (.inr (.inr (.inr (fun _ => none)))))) v0 0 0 (some (hp_N σ))) fun σ3 =>
  Option.bind (st_R (nw_A σ3 (4, (1000 : Int32).toNatClampNeg, .inr (.inr (.inr (.inr (fun _ => none)))))) v0 0 1 (some (hp_N σ3))) fun σ5 =>
  Option.bind (f_No_init (some (hp_N σ5)) (nw_O σ5 6)) fun σ8 =>
  Option.bind (st_R σ8 v0 0 2 (some (hp_N σ5))) fun σ9 =>
  Option.bind (f_No_init (some (hp_N σ9)) (nw_O σ9 6)) fun σ12 =>
  Option.bind (st_R σ12 v0 0 3 (some (hp_N σ9))) fun σ13 =>
  Option.bind (f_Ta_init (some (hp_N σ13)) (nw_O σ13 9)) fun σ16 =>
  Option.bind (st_R σ16 v0 0 4 (some (hp_N σ13))) fun σ17 =>
  Option.bind (f_Lo_init (some (hp_N σ17)) (nw_O σ17 5)) fun σ20 =>
  Option.bind (st_R σ20 v0 0 5 (some (hp_N σ17))) fun σ21 =>
  Option.bind (st_I σ21 v0 0 10 1) fun σ23 =>
  Option.bind (f_Li_init (some (hp_N σ23)) v2 v3 (nw_O σ23 4)) fun σ26 =>
  Option.bind (st_R σ26 v0 0 6 (some (hp_N σ23))) fun σ27 =>
  Option.bind (f_Co_init n (some (hp_N σ27)) (imax_ 1 (imin_ v1 5000)) (nw_O σ27 2)) fun σ30 =>
  Option.bind (st_R σ30 v0 0 7 (some (hp_N σ27))) fun σ31 =>
  Option.bind (f_Rs_init (some (hp_N σ31)) (imax_ 1 (imin_ v1 5000)) (nw_O σ31 8)) fun σ34 =>
  Option.bind (st_R σ34 v0 0 8 (some (hp_N σ31))) fun σ35 =>
  Option.bind (f_Cl_init (some (hp_N σ35)) (imax_ 1 (imin_ v1 5000)) (nw_O σ35 1)) fun σ38 =>
  Option.bind (st_R σ38 v0 0 9 (some (hp_N σ35))) fun σ39 =>
  some σ39
set_option maxRecDepth 100000 in
theorem c_W_init {l : Launch} {DD : DT} (n : Nat) (v0 : Option Nat) (v1 : Int32) (v2 : Int32) (v3 : Int32) {σ0 σz : Hp} (hf : f_W_init n v0 v1 v2 v3 σ0 = some σz) : CT l DD y_W_init prog_1_method_1_code 5 none rm_W_init [tR v0, tI v1, tI v2, tI v3] σ0 none σz := by
  refine r_met (by decide) (Nat.le_of_ble_eq_true rfl) ?_
  intro p e s m args below meth c X hret hlk hnm
  unfold f_W_init at hf
  refine r_aload_n X d_W_init_0 rfl 0 rfl ?_
  obtain ⟨x1, h2, hf⟩ := obind hf
  refine r_objInit X h2 q25 q26 q27 (Nat.le_of_ble_eq_true rfl) (Nat.le_of_ble_eq_true rfl) d_W_init_1 ?_
  refine r_aload_n X d_W_init_4 rfl 0 rfl ?_
  refine r_sipush (v := 1000) X d_W_init_5 (by decide) ?_
  refine r_newa_E X 1000 (by decide) (by decide) (Nat.le_of_ble_eq_true rfl) (Nat.le_of_ble_eq_true rfl) d_W_init_8 q28 ?_
  obtain ⟨σ3, h4, hf⟩ := obind hf
  refine r_stF_R (ci := 0) (k := 0) X h4 (Nat.le_of_ble_eq_true rfl) (Nat.le_of_ble_eq_true rfl) rfl rfl rfl hnm rfl q221 d_W_init_11 ?_
  refine r_aload_n X d_W_init_14 rfl 0 rfl ?_
  refine r_sipush (v := 1000) X d_W_init_15 (by decide) ?_
  refine r_newa_W X 1000 (by decide) (by decide) (Nat.le_of_ble_eq_true rfl) (Nat.le_of_ble_eq_true rfl) d_W_init_18 q30 ?_
  obtain ⟨σ5, h6, hf⟩ := obind hf
  refine r_stF_R (ci := 0) (k := 1) X h6 (Nat.le_of_ble_eq_true rfl) (Nat.le_of_ble_eq_true rfl) rfl rfl rfl hnm rfl q222 d_W_init_21 ?_
  refine r_aload_n X d_W_init_24 rfl 0 rfl ?_
  refine r_new (ci := 6) X (Nat.le_of_ble_eq_true rfl) q32 q33 q2 (Nat.le_of_ble_eq_true rfl) (Nat.le_of_ble_eq_true rfl) d_W_init_25 ?_
  refine r_dup X d_W_init_28 rfl ?_
  obtain ⟨σ8, h7, hf⟩ := obind hf
  refine r_callIN (ret := none) (host := "WindowCache") (st := [tR (some (hp_N σ5)), tR v0]) X [] rfl (by decide) q35 rfl (c_No_init (some (hp_N σ5)) h7) q36 q2 y_No_init_ok rfl ⟨Nat.le_of_ble_eq_true rfl, Nat.le_of_ble_eq_true rfl⟩ (Nat.le_of_ble_eq_true rfl) ⟨Nat.le_of_ble_eq_true rfl, Nat.le_of_ble_eq_true rfl⟩ d_W_init_29 ?_
  obtain ⟨σ9, h10, hf⟩ := obind hf
  refine r_stF_R (ci := 0) (k := 2) X h10 (Nat.le_of_ble_eq_true rfl) (Nat.le_of_ble_eq_true rfl) rfl rfl rfl hnm rfl q223 d_W_init_32 ?_
  refine r_aload_n X d_W_init_35 rfl 0 rfl ?_
  refine r_new (ci := 6) X (Nat.le_of_ble_eq_true rfl) q32 q33 q2 (Nat.le_of_ble_eq_true rfl) (Nat.le_of_ble_eq_true rfl) d_W_init_36 ?_
  refine r_dup X d_W_init_39 rfl ?_
  obtain ⟨σ12, h11, hf⟩ := obind hf
  refine r_callIN (ret := none) (host := "WindowCache") (st := [tR (some (hp_N σ9)), tR v0]) X [] rfl (by decide) q35 rfl (c_No_init (some (hp_N σ9)) h11) q36 q2 y_No_init_ok rfl ⟨Nat.le_of_ble_eq_true rfl, Nat.le_of_ble_eq_true rfl⟩ (Nat.le_of_ble_eq_true rfl) ⟨Nat.le_of_ble_eq_true rfl, Nat.le_of_ble_eq_true rfl⟩ d_W_init_40 ?_
  obtain ⟨σ13, h14, hf⟩ := obind hf
  refine r_stF_R (ci := 0) (k := 3) X h14 (Nat.le_of_ble_eq_true rfl) (Nat.le_of_ble_eq_true rfl) rfl rfl rfl hnm rfl q224 d_W_init_43 ?_
  refine r_aload_n X d_W_init_46 rfl 0 rfl ?_
  refine r_new (ci := 9) X (Nat.le_of_ble_eq_true rfl) q52 q53 q3 (Nat.le_of_ble_eq_true rfl) (Nat.le_of_ble_eq_true rfl) d_W_init_47 ?_
  refine r_dup X d_W_init_50 rfl ?_
  obtain ⟨σ16, h15, hf⟩ := obind hf
  refine r_callIN (ret := none) (host := "WindowCache") (st := [tR (some (hp_N σ13)), tR v0]) X [] rfl (by decide) q55 rfl (c_Ta_init (some (hp_N σ13)) h15) q56 q3 y_Ta_init_ok rfl ⟨Nat.le_of_ble_eq_true rfl, Nat.le_of_ble_eq_true rfl⟩ (Nat.le_of_ble_eq_true rfl) ⟨Nat.le_of_ble_eq_true rfl, Nat.le_of_ble_eq_true rfl⟩ d_W_init_51 ?_
  obtain ⟨σ17, h18, hf⟩ := obind hf
  refine r_stF_R (ci := 0) (k := 4) X h18 (Nat.le_of_ble_eq_true rfl) (Nat.le_of_ble_eq_true rfl) rfl rfl rfl hnm rfl q225 d_W_init_54 ?_
  refine r_aload_n X d_W_init_57 rfl 0 rfl ?_
  refine r_new (ci := 5) X (Nat.le_of_ble_eq_true rfl) q73 q74 q4 (Nat.le_of_ble_eq_true rfl) (Nat.le_of_ble_eq_true rfl) d_W_init_58 ?_
  refine r_dup X d_W_init_61 rfl ?_
  obtain ⟨σ20, h19, hf⟩ := obind hf
  refine r_callIN (ret := none) (host := "WindowCache") (st := [tR (some (hp_N σ17)), tR v0]) X [] rfl (by decide) q76 rfl (c_Lo_init (some (hp_N σ17)) h19) q77 q4 y_Lo_init_ok rfl ⟨Nat.le_of_ble_eq_true rfl, Nat.le_of_ble_eq_true rfl⟩ (Nat.le_of_ble_eq_true rfl) ⟨Nat.le_of_ble_eq_true rfl, Nat.le_of_ble_eq_true rfl⟩ d_W_init_62 ?_
  obtain ⟨σ21, h22, hf⟩ := obind hf
  refine r_stF_R (ci := 0) (k := 5) X h22 (Nat.le_of_ble_eq_true rfl) (Nat.le_of_ble_eq_true rfl) rfl rfl rfl hnm rfl q226 d_W_init_65 ?_
  refine r_aload_n X d_W_init_68 rfl 0 rfl ?_
  refine r_iconst (v := 1) X d_W_init_69 (by decide) ?_
  obtain ⟨σ23, h24, hf⟩ := obind hf
  refine r_st_I (ci := 0) (k := 10) X h24 (Nat.le_of_ble_eq_true rfl) (Nat.le_of_ble_eq_true rfl) rfl rfl rfl q231 d_W_init_70 ?_
  refine r_iconst (v := 1) X d_W_init_73 (by decide) ?_
  refine r_iload_n X d_W_init_74 rfl 1 rfl ?_
  refine r_sipush (v := 5000) X d_W_init_75 (by decide) ?_
  refine r_mmin X q92 q93 q5 q94 (Nat.le_of_ble_eq_true rfl) (Nat.le_of_ble_eq_true rfl) (Nat.le_of_ble_eq_true rfl) (Nat.le_of_ble_eq_true rfl) d_W_init_78 ?_
  refine r_mmax X q95 q96 q5 q97 (Nat.le_of_ble_eq_true rfl) (Nat.le_of_ble_eq_true rfl) (Nat.le_of_ble_eq_true rfl) (Nat.le_of_ble_eq_true rfl) d_W_init_81 ?_
  refine r_istore (lv' := [(0, tR v0), (2, tI v2), (3, tI v3), (4, tI (imax_ 1 (imin_ v1 5000)))]) X [1, 3, 4, 0] d_W_init_84 (Nat.le_of_ble_eq_true rfl) rfl ?_
  refine r_aload_n X d_W_init_86 rfl 0 rfl ?_
  refine r_new (ci := 4) X (Nat.le_of_ble_eq_true rfl) q98 q99 q6 (Nat.le_of_ble_eq_true rfl) (Nat.le_of_ble_eq_true rfl) d_W_init_87 ?_
  refine r_dup X d_W_init_90 rfl ?_
  refine r_iload_n X d_W_init_91 rfl 1 rfl ?_
  refine r_iload_n X d_W_init_92 rfl 2 rfl ?_
  obtain ⟨σ26, h25, hf⟩ := obind hf
  refine r_callI (ret := none) (st := [tR (some (hp_N σ23)), tR v0]) X [tI v2, tI v3] rfl q100 q101 rfl (c_Li_init (some (hp_N σ23)) v2 v3 h25) q102 q6 y_Li_init_ok rfl ⟨Nat.le_of_ble_eq_true rfl, Nat.le_of_ble_eq_true rfl⟩ (Nat.le_of_ble_eq_true rfl) ⟨Nat.le_of_ble_eq_true rfl, Nat.le_of_ble_eq_true rfl⟩ d_W_init_93 ?_
  obtain ⟨σ27, h28, hf⟩ := obind hf
  refine r_stF_R (ci := 0) (k := 6) X h28 (Nat.le_of_ble_eq_true rfl) (Nat.le_of_ble_eq_true rfl) rfl rfl rfl hnm rfl q227 d_W_init_96 ?_
  refine r_aload_n X d_W_init_99 rfl 0 rfl ?_
  refine r_new (ci := 2) X (Nat.le_of_ble_eq_true rfl) q115 q116 q7 (Nat.le_of_ble_eq_true rfl) (Nat.le_of_ble_eq_true rfl) d_W_init_100 ?_
  refine r_dup X d_W_init_103 rfl ?_
  refine r_iload X d_W_init_104 3 rfl ?_
  obtain ⟨σ30, h29, hf⟩ := obind hf
  refine r_callI (ret := none) (st := [tR (some (hp_N σ27)), tR v0]) X [tI (imax_ 1 (imin_ v1 5000))] rfl q117 q118 rfl (c_Co_init n (some (hp_N σ27)) (imax_ 1 (imin_ v1 5000)) h29) q119 q7 y_Co_init_ok rfl ⟨Nat.le_of_ble_eq_true rfl, Nat.le_of_ble_eq_true rfl⟩ (Nat.le_of_ble_eq_true rfl) ⟨Nat.le_of_ble_eq_true rfl, Nat.le_of_ble_eq_true rfl⟩ d_W_init_106 ?_
  obtain ⟨σ31, h32, hf⟩ := obind hf
  refine r_stF_R (ci := 0) (k := 7) X h32 (Nat.le_of_ble_eq_true rfl) (Nat.le_of_ble_eq_true rfl) rfl rfl rfl hnm rfl q228 d_W_init_109 ?_
  refine r_aload_n X d_W_init_112 rfl 0 rfl ?_
  refine r_new (ci := 8) X (Nat.le_of_ble_eq_true rfl) q132 q133 q8 (Nat.le_of_ble_eq_true rfl) (Nat.le_of_ble_eq_true rfl) d_W_init_113 ?_
  refine r_dup X d_W_init_116 rfl ?_
  refine r_iload X d_W_init_117 3 rfl ?_
  obtain ⟨σ34, h33, hf⟩ := obind hf
  refine r_callI (ret := none) (st := [tR (some (hp_N σ31)), tR v0]) X [tI (imax_ 1 (imin_ v1 5000))] rfl q134 q135 rfl (c_Rs_init (some (hp_N σ31)) (imax_ 1 (imin_ v1 5000)) h33) q136 q8 y_Rs_init_ok rfl ⟨Nat.le_of_ble_eq_true rfl, Nat.le_of_ble_eq_true rfl⟩ (Nat.le_of_ble_eq_true rfl) ⟨Nat.le_of_ble_eq_true rfl, Nat.le_of_ble_eq_true rfl⟩ d_W_init_119 ?_
  obtain ⟨σ35, h36, hf⟩ := obind hf
  refine r_stF_R (ci := 0) (k := 8) X h36 (Nat.le_of_ble_eq_true rfl) (Nat.le_of_ble_eq_true rfl) rfl rfl rfl hnm rfl q229 d_W_init_122 ?_
  refine r_aload_n X d_W_init_125 rfl 0 rfl ?_
  refine r_new (ci := 1) X (Nat.le_of_ble_eq_true rfl) q183 q184 q10 (Nat.le_of_ble_eq_true rfl) (Nat.le_of_ble_eq_true rfl) d_W_init_126 ?_
  refine r_dup X d_W_init_129 rfl ?_
  refine r_iload X d_W_init_130 3 rfl ?_
  obtain ⟨σ38, h37, hf⟩ := obind hf
  refine r_callI (ret := none) (st := [tR (some (hp_N σ35)), tR v0]) X [tI (imax_ 1 (imin_ v1 5000))] rfl q185 q186 rfl (c_Cl_init (some (hp_N σ35)) (imax_ 1 (imin_ v1 5000)) h37) q187 q10 y_Cl_init_ok rfl ⟨Nat.le_of_ble_eq_true rfl, Nat.le_of_ble_eq_true rfl⟩ (Nat.le_of_ble_eq_true rfl) ⟨Nat.le_of_ble_eq_true rfl, Nat.le_of_ble_eq_true rfl⟩ d_W_init_132 ?_
  obtain ⟨σ39, h40, hf⟩ := obind hf
  refine r_stF_R (ci := 0) (k := 9) X h40 (Nat.le_of_ble_eq_true rfl) (Nat.le_of_ble_eq_true rfl) rfl rfl rfl hnm rfl q230 d_W_init_135 ?_
  cases hf
  refine r_widen (kc2 := rm_W_init.cells) (ks2 := rm_W_init.slots) (Nat.le_of_ble_eq_true rfl) (Nat.le_of_ble_eq_true rfl) ?_
  exact r_vret X hret hlk d_W_init_138

def f_W_isKey (v0 : Int32) (σ : Hp) : Option (Int32 × Hp) :=
  if v0 < 0 then
  (
    some (0, σ))
  else
  (
    if 1000 ≤ v0 then
    (
      some (0, σ))
    else
    (
      some (1, σ)))
set_option maxRecDepth 100000 in
theorem c_W_isKey {l : Launch} {DD : DT} (v0 : Int32) {σ0 σz : Hp} {rz : Int32} (hf : f_W_isKey v0 σ0 = some (rz, σz)) : CT l DD y_W_isKey prog_1_method_16_code 1 (some .boolean) rm_W_isKey [tI v0] σ0 (some (tI rz)) σz := by
  refine r_met (by decide) (Nat.le_of_ble_eq_true rfl) ?_
  intro p e s m args below meth c X hret hlk hnm
  unfold f_W_isKey at hf
  refine r_iload_n X d_W_isKey_0 rfl 0 rfl ?_
  refine r_if_lt (tgt := 15) X d_W_isKey_1 (by decide) (fun hc1 => ?_) (fun hc1 => ?_)
  · have hf := (if_pos hc1).symm.trans hf
    refine r_iconst (v := 0) X d_W_isKey_15 (by decide) ?_
    cases hf
    refine r_widen (kc2 := rm_W_isKey.cells) (ks2 := rm_W_isKey.slots) (Nat.le_of_ble_eq_true rfl) (Nat.le_of_ble_eq_true rfl) ?_
    exact r_zret X hret hlk (by decide) d_W_isKey_16
  · have hf := (if_neg hc1).symm.trans hf
    refine r_iload_n X d_W_isKey_4 rfl 0 rfl ?_
    refine r_sipush (v := 1000) X d_W_isKey_5 (by decide) ?_
    refine r_icmp_ge (tgt := 15) X d_W_isKey_8 (by decide) (fun hc2 => ?_) (fun hc2 => ?_)
    · have hf := (if_pos hc2).symm.trans hf
      refine r_iconst (v := 0) X d_W_isKey_15 (by decide) ?_
      cases hf
      refine r_widen (kc2 := rm_W_isKey.cells) (ks2 := rm_W_isKey.slots) (Nat.le_of_ble_eq_true rfl) (Nat.le_of_ble_eq_true rfl) ?_
      exact r_zret X hret hlk (by decide) d_W_isKey_16
    · have hf := (if_neg hc2).symm.trans hf
      refine r_iconst (v := 1) X d_W_isKey_11 (by decide) ?_
      refine r_goto (tgt := 16) X d_W_isKey_12 (by decide) ?_
      cases hf
      refine r_widen (kc2 := rm_W_isKey.cells) (ks2 := rm_W_isKey.slots) (Nat.le_of_ble_eq_true rfl) (Nat.le_of_ble_eq_true rfl) ?_
      exact r_zret X hret hlk (by decide) d_W_isKey_16

def f_W_ask_22  (v0 : Option Nat) (σ : Hp) : Option (Int32 × Hp) :=
  Option.bind (ld_R σ v0 0 9) fun x6 =>
  Option.bind (ld_I σ x6 1 3) fun x8 =>
  Option.bind (st_I σ x6 1 3 (x8 + 1)) fun σ10 =>
  some ((-1), σ10)
set_option maxRecDepth 100000 in
theorem b_W_ask_22 {p : Program} {l : Launch} {e : Env} {s : State} {m : MethodId} {args : Array Value} {below : List Frame} {meth : Method} {c : Code} {DD : DT} {σ0 σz : Hp} {rz : Int32} (X : CX p s m args c prog_1_method_19_code 4 (dm σ0) DD y_W_ask.cls) (hret : meth.sig.returnType = some .int) (hlk : meth.locks = false) (hnm : meth.name = y_W_ask.name)   (v0 : Option Nat) (σ : Hp) (hf : f_W_ask_22  v0 σ = some (rz, σz)) : GG p l e rm_W_ask s m args below meth c 4 (dm σ0) DD (MQ below (Post DD σ0 (some (tI rz)) σz) args s rm_W_ask.cells rm_W_ask.slots (dm σ0)) 0 0 σ 22 [(0, tR v0)] [] := by
  unfold f_W_ask_22 at hf
  refine r_aload_n X d_W_ask_22 rfl 0 rfl ?_
  obtain ⟨x6, h7, hf⟩ := obind hf
  refine r_ld_R (ci := 0) (k := 9) X h7 (Nat.le_of_ble_eq_true rfl) (Nat.le_of_ble_eq_true rfl) rfl rfl q230 d_W_ask_23 ?_
  refine r_dup X d_W_ask_26 rfl ?_
  obtain ⟨x8, h9, hf⟩ := obind hf
  refine r_ld_I (ci := 1) (k := 3) X h9 (Nat.le_of_ble_eq_true rfl) (Nat.le_of_ble_eq_true rfl) (Or.inl rfl) rfl q195 d_W_ask_27 ?_
  refine r_iconst (v := 1) X d_W_ask_30 (by decide) ?_
  refine r_iadd X d_W_ask_31 ?_
  obtain ⟨σ10, h11, hf⟩ := obind hf
  refine r_st_I (ci := 1) (k := 3) X h11 (Nat.le_of_ble_eq_true rfl) (Nat.le_of_ble_eq_true rfl) rfl rfl rfl q195 d_W_ask_32 ?_
  refine r_iconst (v := -1) X d_W_ask_35 (by decide) ?_
  cases hf
  refine r_widen (kc2 := rm_W_ask.cells) (ks2 := rm_W_ask.slots) (Nat.le_of_ble_eq_true rfl) (Nat.le_of_ble_eq_true rfl) ?_
  exact r_iret X hret hlk d_W_ask_36

def f_W_ask_75  (v2 : Option Nat) (w0 : Option Nat) (σ : Hp) : Option (Int32 × Hp) :=
  Option.bind (is_O σ w0 6) fun x36 =>
  Option.bind (f_No_add w0 v2 σ) fun σ38 =>
  Option.bind (ld_I σ38 v2 3 1) fun x39 =>
  some (x39, σ38)
set_option maxRecDepth 100000 in
theorem b_W_ask_75 {p : Program} {l : Launch} {e : Env} {s : State} {m : MethodId} {args : Array Value} {below : List Frame} {meth : Method} {c : Code} {DD : DT} {σ0 σz : Hp} {rz : Int32} (X : CX p s m args c prog_1_method_19_code 4 (dm σ0) DD y_W_ask.cls) (hret : meth.sig.returnType = some .int) (hlk : meth.locks = false) (hnm : meth.name = y_W_ask.name)   (v2 : Option Nat) (w0 : Option Nat) (σ : Hp) (hf : f_W_ask_75  v2 w0 σ = some (rz, σz)) : GG p l e rm_W_ask s m args below meth c 4 (dm σ0) DD (MQ below (Post DD σ0 (some (tI rz)) σz) args s rm_W_ask.cells rm_W_ask.slots (dm σ0)) 0 0 σ 75 [(2, tR v2)] [tR w0] := by
  unfold f_W_ask_75 at hf
  refine r_astore_n (lv' := [(2, tR v2), (3, tR w0)]) X [1, 0] d_W_ask_75 rfl (Nat.le_of_ble_eq_true rfl) rfl ?_
  refine r_aload_n X d_W_ask_76 rfl 1 rfl ?_
  refine r_aload_n X d_W_ask_77 rfl 0 rfl ?_
  obtain ⟨x36, h35, hf⟩ := obind hf
  obtain ⟨σ38, h37, hf⟩ := obind hf
  refine r_callV (st := []) X [tR v2] (ci := 6) h35 (Nat.le_of_ble_eq_true rfl) q289 q290 q291 (c_No_add w0 v2 h37) q292 q2 y_No_add_ok rfl ⟨Nat.le_of_ble_eq_true rfl, Nat.le_of_ble_eq_true rfl⟩ (Nat.le_of_ble_eq_true rfl) ⟨Nat.le_of_ble_eq_true rfl, Nat.le_of_ble_eq_true rfl⟩ d_W_ask_78 ?_
  refine r_aload_n X d_W_ask_81 rfl 0 rfl ?_
  obtain ⟨x39, h40, hf⟩ := obind hf
  refine r_ld_I (ci := 3) (k := 1) X h40 (Nat.le_of_ble_eq_true rfl) (Nat.le_of_ble_eq_true rfl) (Or.inl rfl) rfl q609 d_W_ask_82 ?_
  cases hf
  refine r_widen (kc2 := rm_W_ask.cells) (ks2 := rm_W_ask.slots) (Nat.le_of_ble_eq_true rfl) (Nat.le_of_ble_eq_true rfl) ?_
  exact r_iret X hret hlk d_W_ask_85

def f_W_ask (v0 : Option Nat) (v1 : Int32) (σ : Hp) : Option (Int32 × Hp) :=
  Option.bind (ld_R σ v0 0 0) fun x1 =>
  Option.bind (al_R σ 3 x1 v1) fun x3 =>
  if x3 = none then
  (
    f_W_ask_22  v0 σ)
  else
  (
    Option.bind (ld_R σ v0 0 6) fun x12 =>
    Option.bind (is_O σ x12 4) fun x15 =>
    pb (f_Li_isOver x12 x3 σ) fun x18 σ17 =>
    if x18 = 0 then
    (
      Option.bind (ld_R σ17 v0 0 9) fun x20 =>
      Option.bind (ld_I σ17 x20 1 2) fun x22 =>
      Option.bind (st_I σ17 x20 1 2 (x22 + 1)) fun σ24 =>
      Option.bind (ld_R σ24 v0 0 6) fun x26 =>
      Option.bind (is_O σ24 x26 4) fun x29 =>
      Option.bind (f_Li_prolong x26 x3 σ24) fun σ31 =>
      if (v1 - v1 / 2 * 2) = 0 then
      (
        Option.bind (ld_R σ31 v0 0 2) fun x41 =>
        f_W_ask_75  x3 x41 σ31)
      else
      (
        Option.bind (ld_R σ31 v0 0 3) fun x33 =>
        f_W_ask_75  x3 x33 σ31))
    else
    (
      f_W_ask_22  v0 σ17))
set_option maxRecDepth 100000 in
theorem c_W_ask {l : Launch} {DD : DT} (v0 : Option Nat) (v1 : Int32) {σ0 σz : Hp} {rz : Int32} (hf : f_W_ask v0 v1 σ0 = some (rz, σz)) : CT l DD y_W_ask prog_1_method_19_code 4 (some .int) rm_W_ask [tR v0, tI v1] σ0 (some (tI rz)) σz := by
  refine r_met (by decide) (Nat.le_of_ble_eq_true rfl) ?_
  intro p e s m args below meth c X hret hlk hnm
  unfold f_W_ask at hf
  refine r_aload_n X d_W_ask_0 rfl 0 rfl ?_
  obtain ⟨x1, h2, hf⟩ := obind hf
  refine r_ld_R (ci := 0) (k := 0) X h2 (Nat.le_of_ble_eq_true rfl) (Nat.le_of_ble_eq_true rfl) rfl rfl q221 d_W_ask_1 ?_
  refine r_iload_n X d_W_ask_4 rfl 1 rfl ?_
  obtain ⟨x3, h4, hf⟩ := obind hf
  refine r_al_E X h4 d_W_ask_5 ?_
  refine r_astore_n (lv' := [(0, tR v0), (1, tI v1), (2, tR x3)]) X [1, 2, 0] d_W_ask_6 rfl (Nat.le_of_ble_eq_true rfl) rfl ?_
  refine r_aload_n X d_W_ask_7 rfl 2 rfl ?_
  refine r_ifnull (tgt := 22) X d_W_ask_8 (by decide) (fun hc5 => ?_) (fun hc5 => ?_)
  · have hf := (if_pos hc5).symm.trans hf
    refine r_widen (kc2 := 0) (ks2 := 0) (Nat.le_of_ble_eq_true rfl) (Nat.le_of_ble_eq_true rfl) ?_
    refine r_sub [0] (lv' := [(0, tR v0)]) rfl ?_
    exact b_W_ask_22 X hret hlk hnm   v0 σ0 hf
  · have hf := (if_neg hc5).symm.trans hf
    refine r_aload_n X d_W_ask_11 rfl 0 rfl ?_
    obtain ⟨x12, h13, hf⟩ := obind hf
    refine r_ld_R (ci := 0) (k := 6) X h13 (Nat.le_of_ble_eq_true rfl) (Nat.le_of_ble_eq_true rfl) rfl rfl q227 d_W_ask_12 ?_
    refine r_aload_n X d_W_ask_15 rfl 2 rfl ?_
    obtain ⟨x15, h14, hf⟩ := obind hf
    obtain ⟨x18, σ17, h16, hf⟩ := pbind hf
    refine r_callV (st := []) X [tR x3] (ci := 4) h14 (Nat.le_of_ble_eq_true rfl) q278 q279 q280 (c_Li_isOver x12 x3 h16) q281 q6 y_Li_isOver_ok rfl ⟨Nat.le_of_ble_eq_true rfl, Nat.le_of_ble_eq_true rfl⟩ (Nat.le_of_ble_eq_true rfl) ⟨Nat.le_of_ble_eq_true rfl, Nat.le_of_ble_eq_true rfl⟩ d_W_ask_16 ?_
    refine r_if_eq (tgt := 37) X d_W_ask_19 (by decide) (fun hc19 => ?_) (fun hc19 => ?_)
    · have hf := (if_pos hc19).symm.trans hf
      refine r_aload_n X d_W_ask_37 rfl 0 rfl ?_
      obtain ⟨x20, h21, hf⟩ := obind hf
      refine r_ld_R (ci := 0) (k := 9) X h21 (Nat.le_of_ble_eq_true rfl) (Nat.le_of_ble_eq_true rfl) rfl rfl q230 d_W_ask_38 ?_
      refine r_dup X d_W_ask_41 rfl ?_
      obtain ⟨x22, h23, hf⟩ := obind hf
      refine r_ld_I (ci := 1) (k := 2) X h23 (Nat.le_of_ble_eq_true rfl) (Nat.le_of_ble_eq_true rfl) (Or.inl rfl) rfl q193 d_W_ask_42 ?_
      refine r_iconst (v := 1) X d_W_ask_45 (by decide) ?_
      refine r_iadd X d_W_ask_46 ?_
      obtain ⟨σ24, h25, hf⟩ := obind hf
      refine r_st_I (ci := 1) (k := 2) X h25 (Nat.le_of_ble_eq_true rfl) (Nat.le_of_ble_eq_true rfl) rfl rfl rfl q193 d_W_ask_47 ?_
      refine r_aload_n X d_W_ask_50 rfl 0 rfl ?_
      obtain ⟨x26, h27, hf⟩ := obind hf
      refine r_ld_R (ci := 0) (k := 6) X h27 (Nat.le_of_ble_eq_true rfl) (Nat.le_of_ble_eq_true rfl) rfl rfl q227 d_W_ask_51 ?_
      refine r_aload_n X d_W_ask_54 rfl 2 rfl ?_
      obtain ⟨x29, h28, hf⟩ := obind hf
      obtain ⟨σ31, h30, hf⟩ := obind hf
      refine r_callV (st := []) X [tR x3] (ci := 4) h28 (Nat.le_of_ble_eq_true rfl) q282 q283 q284 (c_Li_prolong x26 x3 h30) q285 q6 y_Li_prolong_ok rfl ⟨Nat.le_of_ble_eq_true rfl, Nat.le_of_ble_eq_true rfl⟩ (Nat.le_of_ble_eq_true rfl) ⟨Nat.le_of_ble_eq_true rfl, Nat.le_of_ble_eq_true rfl⟩ d_W_ask_55 ?_
      refine r_iload_n X d_W_ask_58 rfl 1 rfl ?_
      refine r_iconst (v := 2) X d_W_ask_59 (by decide) ?_
      refine r_irem X d_W_ask_60 (by decide) ?_
      refine r_if_ne (tgt := 71) X d_W_ask_61 (by decide) (fun hc32 => ?_) (fun hc32 => ?_)
      · have hf := (if_neg hc32).symm.trans hf
        refine r_aload_n X d_W_ask_71 rfl 0 rfl ?_
        obtain ⟨x33, h34, hf⟩ := obind hf
        refine r_ld_R (ci := 0) (k := 3) X h34 (Nat.le_of_ble_eq_true rfl) (Nat.le_of_ble_eq_true rfl) rfl rfl q224 d_W_ask_72 ?_
        refine r_widen (kc2 := 0) (ks2 := 0) (Nat.le_of_ble_eq_true rfl) (Nat.le_of_ble_eq_true rfl) ?_
        refine r_sub [2] (lv' := [(2, tR x3)]) rfl ?_
        exact b_W_ask_75 X hret hlk hnm   x3 x33 σ31 hf
      · have hf := (if_pos hc32).symm.trans hf
        refine r_aload_n X d_W_ask_64 rfl 0 rfl ?_
        obtain ⟨x41, h42, hf⟩ := obind hf
        refine r_ld_R (ci := 0) (k := 2) X h42 (Nat.le_of_ble_eq_true rfl) (Nat.le_of_ble_eq_true rfl) rfl rfl q223 d_W_ask_65 ?_
        refine r_goto (tgt := 75) X d_W_ask_68 (by decide) ?_
        refine r_widen (kc2 := 0) (ks2 := 0) (Nat.le_of_ble_eq_true rfl) (Nat.le_of_ble_eq_true rfl) ?_
        refine r_sub [2] (lv' := [(2, tR x3)]) rfl ?_
        exact b_W_ask_75 X hret hlk hnm   x3 x41 σ31 hf
    · have hf := (if_neg hc19).symm.trans hf
      refine r_widen (kc2 := 0) (ks2 := 0) (Nat.le_of_ble_eq_true rfl) (Nat.le_of_ble_eq_true rfl) ?_
      refine r_sub [0] (lv' := [(0, tR v0)]) rfl ?_
      exact b_W_ask_22 X hret hlk hnm   v0 σ17 hf

def f_W_get (v0 : Option Nat) (v1 : Int32) (σ : Hp) : Option (Int32 × Hp) :=
  pb (f_W_isKey v1 σ) fun x3 σ2 =>
  if x3 = 0 then
  (
    some ((-1), σ2))
  else
  (
    Option.bind (is_O σ2 v0 0) fun x6 =>
    pb (f_W_ask v0 v1 σ2) fun x9 σ8 =>
    some (x9, σ8))
set_option maxRecDepth 100000 in
theorem c_W_get {l : Launch} {DD : DT} (v0 : Option Nat) (v1 : Int32) {σ0 σz : Hp} {rz : Int32} (hf : f_W_get v0 v1 σ0 = some (rz, σz)) : CT l DD y_W_get prog_1_method_2_code 2 (some .int) rm_W_get [tR v0, tI v1] σ0 (some (tI rz)) σz := by
  refine r_met (by decide) (Nat.le_of_ble_eq_true rfl) ?_
  intro p e s m args below meth c X hret hlk hnm
  unfold f_W_get at hf
  refine r_iload_n X d_W_get_0 rfl 1 rfl ?_
  obtain ⟨x3, σ2, h1, hf⟩ := pbind hf
  refine r_callS (st := []) X [tI v1] q271 q272 (c_W_isKey v1 h1) q273 q1 y_W_isKey_ok rfl ⟨Nat.le_of_ble_eq_true rfl, Nat.le_of_ble_eq_true rfl⟩ (Nat.le_of_ble_eq_true rfl) ⟨Nat.le_of_ble_eq_true rfl, Nat.le_of_ble_eq_true rfl⟩ d_W_get_1 ?_
  refine r_if_eq (tgt := 15) X d_W_get_4 (by decide) (fun hc4 => ?_) (fun hc4 => ?_)
  · have hf := (if_pos hc4).symm.trans hf
    refine r_iconst (v := -1) X d_W_get_15 (by decide) ?_
    cases hf
    refine r_widen (kc2 := rm_W_get.cells) (ks2 := rm_W_get.slots) (Nat.le_of_ble_eq_true rfl) (Nat.le_of_ble_eq_true rfl) ?_
    exact r_iret X hret hlk d_W_get_16
  · have hf := (if_neg hc4).symm.trans hf
    refine r_aload_n X d_W_get_7 rfl 0 rfl ?_
    refine r_iload_n X d_W_get_8 rfl 1 rfl ?_
    obtain ⟨x6, h5, hf⟩ := obind hf
    obtain ⟨x9, σ8, h7, hf⟩ := pbind hf
    refine r_callV (st := []) X [tI v1] (ci := 0) h5 (Nat.le_of_ble_eq_true rfl) q274 q276 sl0 (c_W_ask v0 v1 h7) q277 q1 y_W_ask_ok rfl ⟨Nat.le_of_ble_eq_true rfl, Nat.le_of_ble_eq_true rfl⟩ (Nat.le_of_ble_eq_true rfl) ⟨Nat.le_of_ble_eq_true rfl, Nat.le_of_ble_eq_true rfl⟩ d_W_get_9 ?_
    refine r_goto (tgt := 16) X d_W_get_12 (by decide) ?_
    cases hf
    refine r_widen (kc2 := rm_W_get.cells) (ks2 := rm_W_get.slots) (Nat.le_of_ble_eq_true rfl) (Nat.le_of_ble_eq_true rfl) ?_
    exact r_iret X hret hlk d_W_get_16

def f_W_isSeen (v0 : Option Nat) (v1 : Option Nat) (σ : Hp) : Option (Int32 × Hp) :=
  if v1 = none then
  (
    some (0, σ))
  else
  (
    Option.bind (ld_R σ v0 0 6) fun x2 =>
    Option.bind (is_O σ x2 4) fun x5 =>
    pb (f_Li_isOver x2 v1 σ) fun x8 σ7 =>
    if x8 = 0 then
    (
      some (1, σ7))
    else
    (
      some (0, σ7)))
set_option maxRecDepth 100000 in
theorem c_W_isSeen {l : Launch} {DD : DT} (v0 : Option Nat) (v1 : Option Nat) {σ0 σz : Hp} {rz : Int32} (hf : f_W_isSeen v0 v1 σ0 = some (rz, σz)) : CT l DD y_W_isSeen prog_1_method_18_code 2 (some .boolean) rm_W_isSeen [tR v0, tR v1] σ0 (some (tI rz)) σz := by
  refine r_met (by decide) (Nat.le_of_ble_eq_true rfl) ?_
  intro p e s m args below meth c X hret hlk hnm
  unfold f_W_isSeen at hf
  refine r_aload_n X d_W_isSeen_0 rfl 1 rfl ?_
  refine r_ifnull (tgt := 19) X d_W_isSeen_1 (by decide) (fun hc1 => ?_) (fun hc1 => ?_)
  · have hf := (if_pos hc1).symm.trans hf
    refine r_iconst (v := 0) X d_W_isSeen_19 (by decide) ?_
    cases hf
    refine r_widen (kc2 := rm_W_isSeen.cells) (ks2 := rm_W_isSeen.slots) (Nat.le_of_ble_eq_true rfl) (Nat.le_of_ble_eq_true rfl) ?_
    exact r_zret X hret hlk (by decide) d_W_isSeen_20
  · have hf := (if_neg hc1).symm.trans hf
    refine r_aload_n X d_W_isSeen_4 rfl 0 rfl ?_
    obtain ⟨x2, h3, hf⟩ := obind hf
    refine r_ld_R (ci := 0) (k := 6) X h3 (Nat.le_of_ble_eq_true rfl) (Nat.le_of_ble_eq_true rfl) rfl rfl q227 d_W_isSeen_5 ?_
    refine r_aload_n X d_W_isSeen_8 rfl 1 rfl ?_
    obtain ⟨x5, h4, hf⟩ := obind hf
    obtain ⟨x8, σ7, h6, hf⟩ := pbind hf
    refine r_callV (st := []) X [tR v1] (ci := 4) h4 (Nat.le_of_ble_eq_true rfl) q278 q279 q280 (c_Li_isOver x2 v1 h6) q281 q6 y_Li_isOver_ok rfl ⟨Nat.le_of_ble_eq_true rfl, Nat.le_of_ble_eq_true rfl⟩ (Nat.le_of_ble_eq_true rfl) ⟨Nat.le_of_ble_eq_true rfl, Nat.le_of_ble_eq_true rfl⟩ d_W_isSeen_9 ?_
    refine r_if_ne (tgt := 19) X d_W_isSeen_12 (by decide) (fun hc9 => ?_) (fun hc9 => ?_)
    · have hf := (if_neg hc9).symm.trans hf
      refine r_iconst (v := 0) X d_W_isSeen_19 (by decide) ?_
      cases hf
      refine r_widen (kc2 := rm_W_isSeen.cells) (ks2 := rm_W_isSeen.slots) (Nat.le_of_ble_eq_true rfl) (Nat.le_of_ble_eq_true rfl) ?_
      exact r_zret X hret hlk (by decide) d_W_isSeen_20
    · have hf := (if_pos hc9).symm.trans hf
      refine r_iconst (v := 1) X d_W_isSeen_15 (by decide) ?_
      refine r_goto (tgt := 20) X d_W_isSeen_16 (by decide) ?_
      cases hf
      refine r_widen (kc2 := rm_W_isSeen.cells) (ks2 := rm_W_isSeen.slots) (Nat.le_of_ble_eq_true rfl) (Nat.le_of_ble_eq_true rfl) ?_
      exact r_zret X hret hlk (by decide) d_W_isSeen_20

def f_W_has (v0 : Option Nat) (v1 : Int32) (σ : Hp) : Option (Int32 × Hp) :=
  pb (f_W_isKey v1 σ) fun x3 σ2 =>
  if x3 = 0 then
  (
    some (0, σ2))
  else
  (
    Option.bind (ld_R σ2 v0 0 0) fun x5 =>
    Option.bind (al_R σ2 3 x5 v1) fun x7 =>
    Option.bind (is_O σ2 v0 0) fun x10 =>
    pb (f_W_isSeen v0 x7 σ2) fun x13 σ12 =>
    if x13 = 0 then
    (
      some (0, σ12))
    else
    (
      some (1, σ12)))
set_option maxRecDepth 100000 in
theorem c_W_has {l : Launch} {DD : DT} (v0 : Option Nat) (v1 : Int32) {σ0 σz : Hp} {rz : Int32} (hf : f_W_has v0 v1 σ0 = some (rz, σz)) : CT l DD y_W_has prog_1_method_3_code 2 (some .boolean) rm_W_has [tR v0, tI v1] σ0 (some (tI rz)) σz := by
  refine r_met (by decide) (Nat.le_of_ble_eq_true rfl) ?_
  intro p e s m args below meth c X hret hlk hnm
  unfold f_W_has at hf
  refine r_iload_n X d_W_has_0 rfl 1 rfl ?_
  obtain ⟨x3, σ2, h1, hf⟩ := pbind hf
  refine r_callS (st := []) X [tI v1] q271 q272 (c_W_isKey v1 h1) q273 q1 y_W_isKey_ok rfl ⟨Nat.le_of_ble_eq_true rfl, Nat.le_of_ble_eq_true rfl⟩ (Nat.le_of_ble_eq_true rfl) ⟨Nat.le_of_ble_eq_true rfl, Nat.le_of_ble_eq_true rfl⟩ d_W_has_1 ?_
  refine r_if_eq (tgt := 24) X d_W_has_4 (by decide) (fun hc4 => ?_) (fun hc4 => ?_)
  · have hf := (if_pos hc4).symm.trans hf
    refine r_iconst (v := 0) X d_W_has_24 (by decide) ?_
    cases hf
    refine r_widen (kc2 := rm_W_has.cells) (ks2 := rm_W_has.slots) (Nat.le_of_ble_eq_true rfl) (Nat.le_of_ble_eq_true rfl) ?_
    exact r_zret X hret hlk (by decide) d_W_has_25
  · have hf := (if_neg hc4).symm.trans hf
    refine r_aload_n X d_W_has_7 rfl 0 rfl ?_
    refine r_aload_n X d_W_has_8 rfl 0 rfl ?_
    obtain ⟨x5, h6, hf⟩ := obind hf
    refine r_ld_R (ci := 0) (k := 0) X h6 (Nat.le_of_ble_eq_true rfl) (Nat.le_of_ble_eq_true rfl) rfl rfl q221 d_W_has_9 ?_
    refine r_iload_n X d_W_has_12 rfl 1 rfl ?_
    obtain ⟨x7, h8, hf⟩ := obind hf
    refine r_al_E X h8 d_W_has_13 ?_
    obtain ⟨x10, h9, hf⟩ := obind hf
    obtain ⟨x13, σ12, h11, hf⟩ := pbind hf
    refine r_callV (st := []) X [tR x7] (ci := 0) h9 (Nat.le_of_ble_eq_true rfl) q297 q299 sl1 (c_W_isSeen v0 x7 h11) q300 q1 y_W_isSeen_ok rfl ⟨Nat.le_of_ble_eq_true rfl, Nat.le_of_ble_eq_true rfl⟩ (Nat.le_of_ble_eq_true rfl) ⟨Nat.le_of_ble_eq_true rfl, Nat.le_of_ble_eq_true rfl⟩ d_W_has_14 ?_
    refine r_if_eq (tgt := 24) X d_W_has_17 (by decide) (fun hc14 => ?_) (fun hc14 => ?_)
    · have hf := (if_pos hc14).symm.trans hf
      refine r_iconst (v := 0) X d_W_has_24 (by decide) ?_
      cases hf
      refine r_widen (kc2 := rm_W_has.cells) (ks2 := rm_W_has.slots) (Nat.le_of_ble_eq_true rfl) (Nat.le_of_ble_eq_true rfl) ?_
      exact r_zret X hret hlk (by decide) d_W_has_25
    · have hf := (if_neg hc14).symm.trans hf
      refine r_iconst (v := 1) X d_W_has_20 (by decide) ?_
      refine r_goto (tgt := 25) X d_W_has_21 (by decide) ?_
      cases hf
      refine r_widen (kc2 := rm_W_has.cells) (ks2 := rm_W_has.slots) (Nat.le_of_ble_eq_true rfl) (Nat.le_of_ble_eq_true rfl) ?_
      exact r_zret X hret hlk (by decide) d_W_has_25

def f_W_dropFromMap (v0 : Option Nat) (v1 : Option Nat) (v2 : Int32) (σ : Hp) : Option Hp :=
  Option.bind (ld_R σ v0 0 0) fun x1 =>
  Option.bind (ld_I σ v1 3 0) fun x3 =>
  Option.bind (as_R σ 3 3 x1 x3 none) fun σ5 =>
  Option.bind (st_Z σ5 v1 3 7 1) fun σ7 =>
  Option.bind (ld_R σ7 v0 0 5) fun x9 =>
  Option.bind (is_O σ7 x9 5) fun x12 =>
  Option.bind (f_Lo_add x9 v1 v2 σ7) fun σ14 =>
  some σ14
set_option maxRecDepth 100000 in
theorem c_W_dropFromMap {l : Launch} {DD : DT} (v0 : Option Nat) (v1 : Option Nat) (v2 : Int32) {σ0 σz : Hp} (hf : f_W_dropFromMap v0 v1 v2 σ0 = some σz) : CT l DD y_W_dropFromMap prog_1_method_23_code 3 none rm_W_dropFromMap [tR v0, tR v1, tI v2] σ0 none σz := by
  refine r_met (by decide) (Nat.le_of_ble_eq_true rfl) ?_
  intro p e s m args below meth c X hret hlk hnm
  unfold f_W_dropFromMap at hf
  refine r_aload_n X d_W_dropFromMap_0 rfl 0 rfl ?_
  obtain ⟨x1, h2, hf⟩ := obind hf
  refine r_ld_R (ci := 0) (k := 0) X h2 (Nat.le_of_ble_eq_true rfl) (Nat.le_of_ble_eq_true rfl) rfl rfl q221 d_W_dropFromMap_1 ?_
  refine r_aload_n X d_W_dropFromMap_4 rfl 1 rfl ?_
  obtain ⟨x3, h4, hf⟩ := obind hf
  refine r_ld_I (ci := 3) (k := 0) X h4 (Nat.le_of_ble_eq_true rfl) (Nat.le_of_ble_eq_true rfl) (Or.inl rfl) rfl q607 d_W_dropFromMap_5 ?_
  refine r_null X d_W_dropFromMap_8 ?_
  obtain ⟨σ5, h6, hf⟩ := obind hf
  refine r_as_E X h6 d_W_dropFromMap_9 ?_
  refine r_aload_n X d_W_dropFromMap_10 rfl 1 rfl ?_
  refine r_iconst (v := 1) X d_W_dropFromMap_11 (by decide) ?_
  obtain ⟨σ7, h8, hf⟩ := obind hf
  refine r_st_Z (ci := 3) (k := 7) X h8 (Nat.le_of_ble_eq_true rfl) (Nat.le_of_ble_eq_true rfl) rfl rfl rfl q618 d_W_dropFromMap_12 ?_
  refine r_aload_n X d_W_dropFromMap_15 rfl 0 rfl ?_
  obtain ⟨x9, h10, hf⟩ := obind hf
  refine r_ld_R (ci := 0) (k := 5) X h10 (Nat.le_of_ble_eq_true rfl) (Nat.le_of_ble_eq_true rfl) rfl rfl q226 d_W_dropFromMap_16 ?_
  refine r_aload_n X d_W_dropFromMap_19 rfl 1 rfl ?_
  refine r_iload_n X d_W_dropFromMap_20 rfl 2 rfl ?_
  obtain ⟨x12, h11, hf⟩ := obind hf
  obtain ⟨σ14, h13, hf⟩ := obind hf
  refine r_callV (st := []) X [tR v1, tI v2] (ci := 5) h11 (Nat.le_of_ble_eq_true rfl) q309 q310 q311 (c_Lo_add x9 v1 v2 h13) q312 q4 y_Lo_add_ok rfl ⟨Nat.le_of_ble_eq_true rfl, Nat.le_of_ble_eq_true rfl⟩ (Nat.le_of_ble_eq_true rfl) ⟨Nat.le_of_ble_eq_true rfl, Nat.le_of_ble_eq_true rfl⟩ d_W_dropFromMap_21 ?_
  cases hf
  refine r_widen (kc2 := rm_W_dropFromMap.cells) (ks2 := rm_W_dropFromMap.slots) (Nat.le_of_ble_eq_true rfl) (Nat.le_of_ble_eq_true rfl) ?_
  exact r_vret X hret hlk d_W_dropFromMap_24

def f_W_takeNotes_47 (n : Nat) (rec2 : Option Nat → Option Nat → Int32 → Hp → Option Hp) (v0 : Option Nat) (v1 : Option Nat) (v2 : Int32) (σ : Hp) : Option Hp :=
  Option.bind (ld_R σ v1 6 0) fun x11 =>
  Option.bind (as_R σ 3 3 x11 v2 none) fun σ13 =>
  rec2 v0 v1 (v2 + 1) σ13
set_option maxRecDepth 100000 in
theorem b_W_takeNotes_47 {p : Program} {l : Launch} {e : Env} {s : State} {m : MethodId} {args : Array Value} {below : List Frame} {meth : Method} {c : Code} {DD : DT} {σ0 σz : Hp} (X : CX p s m args c prog_1_method_27_code 4 (dm σ0) DD y_W_takeNotes.cls) (hret : meth.sig.returnType = none) (hlk : meth.locks = false) (hnm : meth.name = y_W_takeNotes.name) (n : Nat) (rec2 : Option Nat → Option Nat → Int32 → Hp → Option Hp) (hrec2 : ∀ (v0 : Option Nat) (v1 : Option Nat) (v2 : Int32) (σ : Hp), rec2 v0 v1 v2 σ = some σz → GG p l e rm_W_takeNotes s m args below meth c 4 (dm σ0) DD (MQ below (Post DD σ0 none σz) args s rm_W_takeNotes.cells rm_W_takeNotes.slots (dm σ0)) 0 0 σ 2 [(0, tR v0), (1, tR v1), (2, tI v2)] []) (v0 : Option Nat) (v1 : Option Nat) (v2 : Int32) (σ : Hp) (hf : f_W_takeNotes_47 n rec2 v0 v1 v2 σ = some σz) : GG p l e rm_W_takeNotes s m args below meth c 4 (dm σ0) DD (MQ below (Post DD σ0 none σz) args s rm_W_takeNotes.cells rm_W_takeNotes.slots (dm σ0)) 0 0 σ 47 [(0, tR v0), (1, tR v1), (2, tI v2)] [] := by
  unfold f_W_takeNotes_47 at hf
  refine r_aload_n X d_W_takeNotes_47 rfl 1 rfl ?_
  obtain ⟨x11, h12, hf⟩ := obind hf
  refine r_ld_R (ci := 6) (k := 0) X h12 (Nat.le_of_ble_eq_true rfl) (Nat.le_of_ble_eq_true rfl) rfl rfl q40 d_W_takeNotes_48 ?_
  refine r_iload_n X d_W_takeNotes_51 rfl 2 rfl ?_
  refine r_null X d_W_takeNotes_52 ?_
  obtain ⟨σ13, h14, hf⟩ := obind hf
  refine r_as_E X h14 d_W_takeNotes_53 ?_
  refine r_iinc (lv' := [(0, tR v0), (1, tR v1), (2, tI (v2 + 1))]) (j := 2) X [1, 2, 0] d_W_takeNotes_54 rfl rfl (Nat.le_of_ble_eq_true rfl) rfl ?_
  refine r_goto (tgt := 2) X d_W_takeNotes_57 (by decide) ?_
  refine r_widen (kc2 := 0) (ks2 := 0) (Nat.le_of_ble_eq_true rfl) (Nat.le_of_ble_eq_true rfl) ?_
  refine r_sub [0, 1, 2] (lv' := [(0, tR v0), (1, tR v1), (2, tI (v2 + 1))]) rfl ?_
  exact hrec2 v0 v1 (v2 + 1) σ13 hf

def f_W_takeNotes_2 (n : Nat)  : Nat → Option Nat → Option Nat → Int32 → Hp → Option Hp
  | 0, _, _, _, _ => none
  | i + 1, v0, v1, v2, σ =>
    Option.bind (ld_I σ v1 6 1) fun x1 =>
    if x1 ≤ v2 then
    (
      Option.bind (st_I σ v1 6 1 0) fun σ4 =>
      some σ4)
    else
    (
      Option.bind (ld_R σ v1 6 0) fun x6 =>
      Option.bind (al_R σ 3 x6 v2) fun x8 =>
      if x8 = none then
      (
        f_W_takeNotes_47 n (f_W_takeNotes_2 n i) v0 v1 v2 σ)
      else
      (
        Option.bind (ld_R σ x8 3 8) fun x15 =>
        if x15 = none then
        (
          f_W_takeNotes_47 n (f_W_takeNotes_2 n i) v0 v1 v2 σ)
        else
        (
          Option.bind (ld_R σ v0 0 7) fun x18 =>
          Option.bind (ld_I σ x8 3 0) fun x20 =>
          Option.bind (is_O σ x18 2) fun x23 =>
          Option.bind (f_Co_add n x18 x20 σ) fun σ25 =>
          Option.bind (ld_R σ25 v0 0 8) fun x26 =>
          Option.bind (is_O σ25 x26 8) fun x29 =>
          Option.bind (f_Rs_touch n x26 x8 σ25) fun σ31 =>
          f_W_takeNotes_47 n (f_W_takeNotes_2 n i) v0 v1 v2 σ31)))
set_option maxRecDepth 100000 in
theorem b_W_takeNotes_2 {p : Program} {l : Launch} {e : Env} {s : State} {m : MethodId} {args : Array Value} {below : List Frame} {meth : Method} {c : Code} {DD : DT} {σ0 σz : Hp} (X : CX p s m args c prog_1_method_27_code 4 (dm σ0) DD y_W_takeNotes.cls) (hret : meth.sig.returnType = none) (hlk : meth.locks = false) (hnm : meth.name = y_W_takeNotes.name) (n : Nat)   : ∀ (i : Nat) (v0 : Option Nat) (v1 : Option Nat) (v2 : Int32) (σ : Hp) (hf : f_W_takeNotes_2 n  i v0 v1 v2 σ = some σz), GG p l e rm_W_takeNotes s m args below meth c 4 (dm σ0) DD (MQ below (Post DD σ0 none σz) args s rm_W_takeNotes.cells rm_W_takeNotes.slots (dm σ0)) 0 0 σ 2 [(0, tR v0), (1, tR v1), (2, tI v2)] [] := by
  intro i
  induction i with
  | zero => intro v0 v1 v2 σ hf; cases hf
  | succ i ih =>
    intro v0 v1 v2 σ hf
    simp only [f_W_takeNotes_2] at hf
    refine r_iload_n X d_W_takeNotes_2 rfl 2 rfl ?_
    refine r_aload_n X d_W_takeNotes_3 rfl 1 rfl ?_
    obtain ⟨x1, h2, hf⟩ := obind hf
    refine r_ld_I (ci := 6) (k := 1) X h2 (Nat.le_of_ble_eq_true rfl) (Nat.le_of_ble_eq_true rfl) (Or.inl rfl) rfl q42 d_W_takeNotes_4 ?_
    refine r_icmp_ge (tgt := 60) X d_W_takeNotes_7 (by decide) (fun hc3 => ?_) (fun hc3 => ?_)
    · have hf := (if_pos hc3).symm.trans hf
      refine r_aload_n X d_W_takeNotes_60 rfl 1 rfl ?_
      refine r_iconst (v := 0) X d_W_takeNotes_61 (by decide) ?_
      obtain ⟨σ4, h5, hf⟩ := obind hf
      refine r_st_I (ci := 6) (k := 1) X h5 (Nat.le_of_ble_eq_true rfl) (Nat.le_of_ble_eq_true rfl) rfl rfl rfl q42 d_W_takeNotes_62 ?_
      cases hf
      refine r_widen (kc2 := rm_W_takeNotes.cells) (ks2 := rm_W_takeNotes.slots) (Nat.le_of_ble_eq_true rfl) (Nat.le_of_ble_eq_true rfl) ?_
      exact r_vret X hret hlk d_W_takeNotes_65
    · have hf := (if_neg hc3).symm.trans hf
      refine r_aload_n X d_W_takeNotes_10 rfl 1 rfl ?_
      obtain ⟨x6, h7, hf⟩ := obind hf
      refine r_ld_R (ci := 6) (k := 0) X h7 (Nat.le_of_ble_eq_true rfl) (Nat.le_of_ble_eq_true rfl) rfl rfl q40 d_W_takeNotes_11 ?_
      refine r_iload_n X d_W_takeNotes_14 rfl 2 rfl ?_
      obtain ⟨x8, h9, hf⟩ := obind hf
      refine r_al_E X h9 d_W_takeNotes_15 ?_
      refine r_astore_n (lv' := [(0, tR v0), (1, tR v1), (2, tI v2), (3, tR x8)]) X [1, 2, 3, 0] d_W_takeNotes_16 rfl (Nat.le_of_ble_eq_true rfl) rfl ?_
      refine r_aload_n X d_W_takeNotes_17 rfl 3 rfl ?_
      refine r_ifnull (tgt := 47) X d_W_takeNotes_18 (by decide) (fun hc10 => ?_) (fun hc10 => ?_)
      · have hf := (if_pos hc10).symm.trans hf
        refine r_widen (kc2 := 0) (ks2 := 0) (Nat.le_of_ble_eq_true rfl) (Nat.le_of_ble_eq_true rfl) ?_
        refine r_sub [0, 1, 2] (lv' := [(0, tR v0), (1, tR v1), (2, tI v2)]) rfl ?_
        exact b_W_takeNotes_47 X hret hlk hnm n (f_W_takeNotes_2 n i) ih v0 v1 v2 σ hf
      · have hf := (if_neg hc10).symm.trans hf
        refine r_aload_n X d_W_takeNotes_21 rfl 3 rfl ?_
        obtain ⟨x15, h16, hf⟩ := obind hf
        refine r_ld_R (ci := 3) (k := 8) X h16 (Nat.le_of_ble_eq_true rfl) (Nat.le_of_ble_eq_true rfl) rfl rfl q621 d_W_takeNotes_22 ?_
        refine r_ifnull (tgt := 47) X d_W_takeNotes_25 (by decide) (fun hc17 => ?_) (fun hc17 => ?_)
        · have hf := (if_pos hc17).symm.trans hf
          refine r_widen (kc2 := 0) (ks2 := 0) (Nat.le_of_ble_eq_true rfl) (Nat.le_of_ble_eq_true rfl) ?_
          refine r_sub [0, 1, 2] (lv' := [(0, tR v0), (1, tR v1), (2, tI v2)]) rfl ?_
          exact b_W_takeNotes_47 X hret hlk hnm n (f_W_takeNotes_2 n i) ih v0 v1 v2 σ hf
        · have hf := (if_neg hc17).symm.trans hf
          refine r_aload_n X d_W_takeNotes_28 rfl 0 rfl ?_
          obtain ⟨x18, h19, hf⟩ := obind hf
          refine r_ld_R (ci := 0) (k := 7) X h19 (Nat.le_of_ble_eq_true rfl) (Nat.le_of_ble_eq_true rfl) rfl rfl q228 d_W_takeNotes_29 ?_
          refine r_aload_n X d_W_takeNotes_32 rfl 3 rfl ?_
          obtain ⟨x20, h21, hf⟩ := obind hf
          refine r_ld_I (ci := 3) (k := 0) X h21 (Nat.le_of_ble_eq_true rfl) (Nat.le_of_ble_eq_true rfl) (Or.inl rfl) rfl q607 d_W_takeNotes_33 ?_
          obtain ⟨x23, h22, hf⟩ := obind hf
          obtain ⟨σ25, h24, hf⟩ := obind hf
          refine r_callV (st := []) X [tI x20] (ci := 2) h22 (Nat.le_of_ble_eq_true rfl) q325 q326 q327 (c_Co_add n x18 x20 h24) q328 q7 y_Co_add_ok rfl ⟨Nat.le_of_ble_eq_true rfl, Nat.le_of_ble_eq_true rfl⟩ (Nat.le_of_ble_eq_true rfl) ⟨Nat.le_of_ble_eq_true rfl, Nat.le_of_ble_eq_true rfl⟩ d_W_takeNotes_36 ?_
          refine r_aload_n X d_W_takeNotes_39 rfl 0 rfl ?_
          obtain ⟨x26, h27, hf⟩ := obind hf
          refine r_ld_R (ci := 0) (k := 8) X h27 (Nat.le_of_ble_eq_true rfl) (Nat.le_of_ble_eq_true rfl) rfl rfl q229 d_W_takeNotes_40 ?_
          refine r_aload_n X d_W_takeNotes_43 rfl 3 rfl ?_
          obtain ⟨x29, h28, hf⟩ := obind hf
          obtain ⟨σ31, h30, hf⟩ := obind hf
          refine r_callV (st := []) X [tR x8] (ci := 8) h28 (Nat.le_of_ble_eq_true rfl) q347 q348 q349 (c_Rs_touch n x26 x8 h30) q350 q8 y_Rs_touch_ok rfl ⟨Nat.le_of_ble_eq_true rfl, Nat.le_of_ble_eq_true rfl⟩ (Nat.le_of_ble_eq_true rfl) ⟨Nat.le_of_ble_eq_true rfl, Nat.le_of_ble_eq_true rfl⟩ d_W_takeNotes_44 ?_
          refine r_widen (kc2 := 0) (ks2 := 0) (Nat.le_of_ble_eq_true rfl) (Nat.le_of_ble_eq_true rfl) ?_
          refine r_sub [0, 1, 2] (lv' := [(0, tR v0), (1, tR v1), (2, tI v2)]) rfl ?_
          exact b_W_takeNotes_47 X hret hlk hnm n (f_W_takeNotes_2 n i) ih v0 v1 v2 σ31 hf

def f_W_takeNotes (n : Nat) (v0 : Option Nat) (v1 : Option Nat) (σ : Hp) : Option Hp :=
  f_W_takeNotes_2 n  n v0 v1 0 σ
set_option maxRecDepth 100000 in
theorem c_W_takeNotes {l : Launch} {DD : DT} (n : Nat) (v0 : Option Nat) (v1 : Option Nat) {σ0 σz : Hp} (hf : f_W_takeNotes n v0 v1 σ0 = some σz) : CT l DD y_W_takeNotes prog_1_method_27_code 4 none rm_W_takeNotes [tR v0, tR v1] σ0 none σz := by
  refine r_met (by decide) (Nat.le_of_ble_eq_true rfl) ?_
  intro p e s m args below meth c X hret hlk hnm
  unfold f_W_takeNotes at hf
  refine r_iconst (v := 0) X d_W_takeNotes_0 (by decide) ?_
  refine r_istore_n (lv' := [(0, tR v0), (1, tR v1), (2, tI 0)]) X [1, 2, 0] d_W_takeNotes_1 rfl (Nat.le_of_ble_eq_true rfl) rfl ?_
  refine r_widen (kc2 := 0) (ks2 := 0) (Nat.le_of_ble_eq_true rfl) (Nat.le_of_ble_eq_true rfl) ?_
  refine r_sub [0, 1, 2] (lv' := [(0, tR v0), (1, tR v1), (2, tI 0)]) rfl ?_
  exact b_W_takeNotes_2 X hret hlk hnm n   n v0 v1 0 σ0 hf

def f_W_takeTasks_117 (n : Nat) (rec2 : Option Nat → Int32 → Hp → Option Hp) (v0 : Option Nat) (v1 : Int32) (σ : Hp) : Option Hp :=
  rec2 v0 (v1 + 1) σ
set_option maxRecDepth 100000 in
theorem b_W_takeTasks_117 {p : Program} {l : Launch} {e : Env} {s : State} {m : MethodId} {args : Array Value} {below : List Frame} {meth : Method} {c : Code} {DD : DT} {σ0 σz : Hp} (X : CX p s m args c prog_1_method_28_code 3 (dm σ0) DD y_W_takeTasks.cls) (hret : meth.sig.returnType = none) (hlk : meth.locks = false) (hnm : meth.name = y_W_takeTasks.name) (n : Nat) (rec2 : Option Nat → Int32 → Hp → Option Hp) (hrec2 : ∀ (v0 : Option Nat) (v1 : Int32) (σ : Hp), rec2 v0 v1 σ = some σz → GG p l e rm_W_takeTasks s m args below meth c 3 (dm σ0) DD (MQ below (Post DD σ0 none σz) args s rm_W_takeTasks.cells rm_W_takeTasks.slots (dm σ0)) 0 0 σ 2 [(0, tR v0), (1, tI v1)] []) (v0 : Option Nat) (v1 : Int32) (σ : Hp) (hf : f_W_takeTasks_117 n rec2 v0 v1 σ = some σz) : GG p l e rm_W_takeTasks s m args below meth c 3 (dm σ0) DD (MQ below (Post DD σ0 none σz) args s rm_W_takeTasks.cells rm_W_takeTasks.slots (dm σ0)) 0 0 σ 117 [(0, tR v0), (1, tI v1)] [] := by
  unfold f_W_takeTasks_117 at hf
  refine r_iinc (lv' := [(0, tR v0), (1, tI (v1 + 1))]) (j := 1) X [1, 0] d_W_takeTasks_117 rfl rfl (Nat.le_of_ble_eq_true rfl) rfl ?_
  refine r_goto (tgt := 2) X d_W_takeTasks_120 (by decide) ?_
  refine r_widen (kc2 := 0) (ks2 := 0) (Nat.le_of_ble_eq_true rfl) (Nat.le_of_ble_eq_true rfl) ?_
  refine r_sub [0, 1] (lv' := [(0, tR v0), (1, tI (v1 + 1))]) rfl ?_
  exact hrec2 v0 (v1 + 1) σ hf

def f_W_takeTasks_2 (n : Nat)  : Nat → Option Nat → Int32 → Hp → Option Hp
  | 0, _, _, _ => none
  | i + 1, v0, v1, σ =>
    Option.bind (ld_R σ v0 0 4) fun x1 =>
    Option.bind (ld_I σ x1 9 2) fun x3 =>
    if x3 ≤ v1 then
    (
      Option.bind (ld_R σ v0 0 4) fun x6 =>
      Option.bind (st_I σ x6 9 2 0) fun σ8 =>
      some σ8)
    else
    (
      Option.bind (ld_R σ v0 0 4) fun x10 =>
      Option.bind (ld_R σ x10 9 0) fun x12 =>
      Option.bind (al_R σ 3 x12 v1) fun x14 =>
      Option.bind (ld_R σ v0 0 4) fun x16 =>
      Option.bind (ld_R σ x16 9 0) fun x18 =>
      Option.bind (as_R σ 3 3 x18 v1 none) fun σ20 =>
      if x14 = none then
      (
        f_W_takeTasks_117 n (f_W_takeTasks_2 n i) v0 v1 σ20)
      else
      (
        Option.bind (ld_R σ20 v0 0 4) fun x23 =>
        Option.bind (ld_R σ20 x23 9 1) fun x25 =>
        Option.bind (al_I σ20 0 x25 v1) fun x27 =>
        if x27 = 2 then
        (
          Option.bind (ld_R σ20 v0 0 8) fun x62 =>
          Option.bind (is_O σ20 x62 8) fun x65 =>
          Option.bind (f_Rs_takeOut x62 x14 σ20) fun σ67 =>
          f_W_takeTasks_117 n (f_W_takeTasks_2 n i) v0 v1 σ67)
        else
        (
          Option.bind (ld_R σ20 v0 0 7) fun x30 =>
          Option.bind (ld_I σ20 x14 3 0) fun x32 =>
          Option.bind (is_O σ20 x30 2) fun x35 =>
          Option.bind (f_Co_add n x30 x32 σ20) fun σ37 =>
          Option.bind (ld_R σ37 v0 0 4) fun x38 =>
          Option.bind (ld_R σ37 x38 9 1) fun x40 =>
          Option.bind (al_I σ37 0 x40 v1) fun x42 =>
          if x42 = 1 then
          (
            Option.bind (ld_R σ37 v0 0 8) fun x56 =>
            Option.bind (is_O σ37 x56 8) fun x59 =>
            Option.bind (f_Rs_touch n x56 x14 σ37) fun σ61 =>
            f_W_takeTasks_117 n (f_W_takeTasks_2 n i) v0 v1 σ61)
          else
          (
            Option.bind (ld_I σ37 x14 3 7) fun x45 =>
            if x45 = 0 then
            (
              Option.bind (ld_R σ37 v0 0 8) fun x48 =>
              Option.bind (ld_R σ37 x48 8 1) fun x50 =>
              Option.bind (is_O σ37 x50 7) fun x53 =>
              Option.bind (f_Ro_addLatest x50 x14 σ37) fun σ55 =>
              f_W_takeTasks_117 n (f_W_takeTasks_2 n i) v0 v1 σ55)
            else
            (
              f_W_takeTasks_117 n (f_W_takeTasks_2 n i) v0 v1 σ37)))))
set_option maxRecDepth 100000 in
theorem b_W_takeTasks_2 {p : Program} {l : Launch} {e : Env} {s : State} {m : MethodId} {args : Array Value} {below : List Frame} {meth : Method} {c : Code} {DD : DT} {σ0 σz : Hp} (X : CX p s m args c prog_1_method_28_code 3 (dm σ0) DD y_W_takeTasks.cls) (hret : meth.sig.returnType = none) (hlk : meth.locks = false) (hnm : meth.name = y_W_takeTasks.name) (n : Nat)   : ∀ (i : Nat) (v0 : Option Nat) (v1 : Int32) (σ : Hp) (hf : f_W_takeTasks_2 n  i v0 v1 σ = some σz), GG p l e rm_W_takeTasks s m args below meth c 3 (dm σ0) DD (MQ below (Post DD σ0 none σz) args s rm_W_takeTasks.cells rm_W_takeTasks.slots (dm σ0)) 0 0 σ 2 [(0, tR v0), (1, tI v1)] [] := by
  intro i
  induction i with
  | zero => intro v0 v1 σ hf; cases hf
  | succ i ih =>
    intro v0 v1 σ hf
    simp only [f_W_takeTasks_2] at hf
    refine r_iload_n X d_W_takeTasks_2 rfl 1 rfl ?_
    refine r_aload_n X d_W_takeTasks_3 rfl 0 rfl ?_
    obtain ⟨x1, h2, hf⟩ := obind hf
    refine r_ld_R (ci := 0) (k := 4) X h2 (Nat.le_of_ble_eq_true rfl) (Nat.le_of_ble_eq_true rfl) rfl rfl q225 d_W_takeTasks_4 ?_
    obtain ⟨x3, h4, hf⟩ := obind hf
    refine r_ld_I (ci := 9) (k := 2) X h4 (Nat.le_of_ble_eq_true rfl) (Nat.le_of_ble_eq_true rfl) (Or.inl rfl) rfl q64 d_W_takeTasks_7 ?_
    refine r_icmp_ge (tgt := 123) X d_W_takeTasks_10 (by decide) (fun hc5 => ?_) (fun hc5 => ?_)
    · have hf := (if_pos hc5).symm.trans hf
      refine r_aload_n X d_W_takeTasks_123 rfl 0 rfl ?_
      obtain ⟨x6, h7, hf⟩ := obind hf
      refine r_ld_R (ci := 0) (k := 4) X h7 (Nat.le_of_ble_eq_true rfl) (Nat.le_of_ble_eq_true rfl) rfl rfl q225 d_W_takeTasks_124 ?_
      refine r_iconst (v := 0) X d_W_takeTasks_127 (by decide) ?_
      obtain ⟨σ8, h9, hf⟩ := obind hf
      refine r_st_I (ci := 9) (k := 2) X h9 (Nat.le_of_ble_eq_true rfl) (Nat.le_of_ble_eq_true rfl) rfl rfl rfl q64 d_W_takeTasks_128 ?_
      cases hf
      refine r_widen (kc2 := rm_W_takeTasks.cells) (ks2 := rm_W_takeTasks.slots) (Nat.le_of_ble_eq_true rfl) (Nat.le_of_ble_eq_true rfl) ?_
      exact r_vret X hret hlk d_W_takeTasks_131
    · have hf := (if_neg hc5).symm.trans hf
      refine r_aload_n X d_W_takeTasks_13 rfl 0 rfl ?_
      obtain ⟨x10, h11, hf⟩ := obind hf
      refine r_ld_R (ci := 0) (k := 4) X h11 (Nat.le_of_ble_eq_true rfl) (Nat.le_of_ble_eq_true rfl) rfl rfl q225 d_W_takeTasks_14 ?_
      obtain ⟨x12, h13, hf⟩ := obind hf
      refine r_ld_R (ci := 9) (k := 0) X h13 (Nat.le_of_ble_eq_true rfl) (Nat.le_of_ble_eq_true rfl) rfl rfl q60 d_W_takeTasks_17 ?_
      refine r_iload_n X d_W_takeTasks_20 rfl 1 rfl ?_
      obtain ⟨x14, h15, hf⟩ := obind hf
      refine r_al_E X h15 d_W_takeTasks_21 ?_
      refine r_astore_n (lv' := [(0, tR v0), (1, tI v1), (2, tR x14)]) X [1, 2, 0] d_W_takeTasks_22 rfl (Nat.le_of_ble_eq_true rfl) rfl ?_
      refine r_aload_n X d_W_takeTasks_23 rfl 0 rfl ?_
      obtain ⟨x16, h17, hf⟩ := obind hf
      refine r_ld_R (ci := 0) (k := 4) X h17 (Nat.le_of_ble_eq_true rfl) (Nat.le_of_ble_eq_true rfl) rfl rfl q225 d_W_takeTasks_24 ?_
      obtain ⟨x18, h19, hf⟩ := obind hf
      refine r_ld_R (ci := 9) (k := 0) X h19 (Nat.le_of_ble_eq_true rfl) (Nat.le_of_ble_eq_true rfl) rfl rfl q60 d_W_takeTasks_27 ?_
      refine r_iload_n X d_W_takeTasks_30 rfl 1 rfl ?_
      refine r_null X d_W_takeTasks_31 ?_
      obtain ⟨σ20, h21, hf⟩ := obind hf
      refine r_as_E X h21 d_W_takeTasks_32 ?_
      refine r_aload_n X d_W_takeTasks_33 rfl 2 rfl ?_
      refine r_ifnonnull (tgt := 40) X d_W_takeTasks_34 (by decide) (fun hc22 => ?_) (fun hc22 => ?_)
      · have hf := (if_neg hc22).symm.trans hf
        refine r_aload_n X d_W_takeTasks_40 rfl 0 rfl ?_
        obtain ⟨x23, h24, hf⟩ := obind hf
        refine r_ld_R (ci := 0) (k := 4) X h24 (Nat.le_of_ble_eq_true rfl) (Nat.le_of_ble_eq_true rfl) rfl rfl q225 d_W_takeTasks_41 ?_
        obtain ⟨x25, h26, hf⟩ := obind hf
        refine r_ld_R (ci := 9) (k := 1) X h26 (Nat.le_of_ble_eq_true rfl) (Nat.le_of_ble_eq_true rfl) rfl rfl q62 d_W_takeTasks_44 ?_
        refine r_iload_n X d_W_takeTasks_47 rfl 1 rfl ?_
        obtain ⟨x27, h28, hf⟩ := obind hf
        refine r_al_I X h28 d_W_takeTasks_48 ?_
        refine r_iconst (v := 2) X d_W_takeTasks_49 (by decide) ?_
        refine r_icmp_ne (tgt := 64) X d_W_takeTasks_50 (by decide) (fun hc29 => ?_) (fun hc29 => ?_)
        · have hf := (if_neg hc29).symm.trans hf
          refine r_aload_n X d_W_takeTasks_64 rfl 0 rfl ?_
          obtain ⟨x30, h31, hf⟩ := obind hf
          refine r_ld_R (ci := 0) (k := 7) X h31 (Nat.le_of_ble_eq_true rfl) (Nat.le_of_ble_eq_true rfl) rfl rfl q228 d_W_takeTasks_65 ?_
          refine r_aload_n X d_W_takeTasks_68 rfl 2 rfl ?_
          obtain ⟨x32, h33, hf⟩ := obind hf
          refine r_ld_I (ci := 3) (k := 0) X h33 (Nat.le_of_ble_eq_true rfl) (Nat.le_of_ble_eq_true rfl) (Or.inl rfl) rfl q607 d_W_takeTasks_69 ?_
          obtain ⟨x35, h34, hf⟩ := obind hf
          obtain ⟨σ37, h36, hf⟩ := obind hf
          refine r_callV (st := []) X [tI x32] (ci := 2) h34 (Nat.le_of_ble_eq_true rfl) q325 q326 q327 (c_Co_add n x30 x32 h36) q328 q7 y_Co_add_ok rfl ⟨Nat.le_of_ble_eq_true rfl, Nat.le_of_ble_eq_true rfl⟩ (Nat.le_of_ble_eq_true rfl) ⟨Nat.le_of_ble_eq_true rfl, Nat.le_of_ble_eq_true rfl⟩ d_W_takeTasks_72 ?_
          refine r_aload_n X d_W_takeTasks_75 rfl 0 rfl ?_
          obtain ⟨x38, h39, hf⟩ := obind hf
          refine r_ld_R (ci := 0) (k := 4) X h39 (Nat.le_of_ble_eq_true rfl) (Nat.le_of_ble_eq_true rfl) rfl rfl q225 d_W_takeTasks_76 ?_
          obtain ⟨x40, h41, hf⟩ := obind hf
          refine r_ld_R (ci := 9) (k := 1) X h41 (Nat.le_of_ble_eq_true rfl) (Nat.le_of_ble_eq_true rfl) rfl rfl q62 d_W_takeTasks_79 ?_
          refine r_iload_n X d_W_takeTasks_82 rfl 1 rfl ?_
          obtain ⟨x42, h43, hf⟩ := obind hf
          refine r_al_I X h43 d_W_takeTasks_83 ?_
          refine r_iconst (v := 1) X d_W_takeTasks_84 (by decide) ?_
          refine r_icmp_ne (tgt := 99) X d_W_takeTasks_85 (by decide) (fun hc44 => ?_) (fun hc44 => ?_)
          · have hf := (if_neg hc44).symm.trans hf
            refine r_aload_n X d_W_takeTasks_99 rfl 2 rfl ?_
            obtain ⟨x45, h46, hf⟩ := obind hf
            refine r_ld_I (ci := 3) (k := 7) X h46 (Nat.le_of_ble_eq_true rfl) (Nat.le_of_ble_eq_true rfl) (Or.inr rfl) rfl q618 d_W_takeTasks_100 ?_
            refine r_if_ne (tgt := 117) X d_W_takeTasks_103 (by decide) (fun hc47 => ?_) (fun hc47 => ?_)
            · have hf := (if_neg hc47).symm.trans hf
              refine r_widen (kc2 := 0) (ks2 := 0) (Nat.le_of_ble_eq_true rfl) (Nat.le_of_ble_eq_true rfl) ?_
              refine r_sub [0, 1] (lv' := [(0, tR v0), (1, tI v1)]) rfl ?_
              exact b_W_takeTasks_117 X hret hlk hnm n (f_W_takeTasks_2 n i) ih v0 v1 σ37 hf
            · have hf := (if_pos hc47).symm.trans hf
              refine r_aload_n X d_W_takeTasks_106 rfl 0 rfl ?_
              obtain ⟨x48, h49, hf⟩ := obind hf
              refine r_ld_R (ci := 0) (k := 8) X h49 (Nat.le_of_ble_eq_true rfl) (Nat.le_of_ble_eq_true rfl) rfl rfl q229 d_W_takeTasks_107 ?_
              obtain ⟨x50, h51, hf⟩ := obind hf
              refine r_ld_R (ci := 8) (k := 1) X h51 (Nat.le_of_ble_eq_true rfl) (Nat.le_of_ble_eq_true rfl) rfl rfl q165 d_W_takeTasks_110 ?_
              refine r_aload_n X d_W_takeTasks_113 rfl 2 rfl ?_
              obtain ⟨x53, h52, hf⟩ := obind hf
              obtain ⟨σ55, h54, hf⟩ := obind hf
              refine r_callV (st := []) X [tR x14] (ci := 7) h52 (Nat.le_of_ble_eq_true rfl) q371 q356 q357 (c_Ro_addLatest x50 x14 h54) q358 q9 y_Ro_addLatest_ok rfl ⟨Nat.le_of_ble_eq_true rfl, Nat.le_of_ble_eq_true rfl⟩ (Nat.le_of_ble_eq_true rfl) ⟨Nat.le_of_ble_eq_true rfl, Nat.le_of_ble_eq_true rfl⟩ d_W_takeTasks_114 ?_
              refine r_widen (kc2 := 0) (ks2 := 0) (Nat.le_of_ble_eq_true rfl) (Nat.le_of_ble_eq_true rfl) ?_
              refine r_sub [0, 1] (lv' := [(0, tR v0), (1, tI v1)]) rfl ?_
              exact b_W_takeTasks_117 X hret hlk hnm n (f_W_takeTasks_2 n i) ih v0 v1 σ55 hf
          · have hf := (if_pos hc44).symm.trans hf
            refine r_aload_n X d_W_takeTasks_88 rfl 0 rfl ?_
            obtain ⟨x56, h57, hf⟩ := obind hf
            refine r_ld_R (ci := 0) (k := 8) X h57 (Nat.le_of_ble_eq_true rfl) (Nat.le_of_ble_eq_true rfl) rfl rfl q229 d_W_takeTasks_89 ?_
            refine r_aload_n X d_W_takeTasks_92 rfl 2 rfl ?_
            obtain ⟨x59, h58, hf⟩ := obind hf
            obtain ⟨σ61, h60, hf⟩ := obind hf
            refine r_callV (st := []) X [tR x14] (ci := 8) h58 (Nat.le_of_ble_eq_true rfl) q347 q348 q349 (c_Rs_touch n x56 x14 h60) q350 q8 y_Rs_touch_ok rfl ⟨Nat.le_of_ble_eq_true rfl, Nat.le_of_ble_eq_true rfl⟩ (Nat.le_of_ble_eq_true rfl) ⟨Nat.le_of_ble_eq_true rfl, Nat.le_of_ble_eq_true rfl⟩ d_W_takeTasks_93 ?_
            refine r_goto (tgt := 117) X d_W_takeTasks_96 (by decide) ?_
            refine r_widen (kc2 := 0) (ks2 := 0) (Nat.le_of_ble_eq_true rfl) (Nat.le_of_ble_eq_true rfl) ?_
            refine r_sub [0, 1] (lv' := [(0, tR v0), (1, tI v1)]) rfl ?_
            exact b_W_takeTasks_117 X hret hlk hnm n (f_W_takeTasks_2 n i) ih v0 v1 σ61 hf
        · have hf := (if_pos hc29).symm.trans hf
          refine r_aload_n X d_W_takeTasks_53 rfl 0 rfl ?_
          obtain ⟨x62, h63, hf⟩ := obind hf
          refine r_ld_R (ci := 0) (k := 8) X h63 (Nat.le_of_ble_eq_true rfl) (Nat.le_of_ble_eq_true rfl) rfl rfl q229 d_W_takeTasks_54 ?_
          refine r_aload_n X d_W_takeTasks_57 rfl 2 rfl ?_
          obtain ⟨x65, h64, hf⟩ := obind hf
          obtain ⟨σ67, h66, hf⟩ := obind hf
          refine r_callV (st := []) X [tR x14] (ci := 8) h64 (Nat.le_of_ble_eq_true rfl) q367 q368 q369 (c_Rs_takeOut x62 x14 h66) q370 q8 y_Rs_takeOut_ok rfl ⟨Nat.le_of_ble_eq_true rfl, Nat.le_of_ble_eq_true rfl⟩ (Nat.le_of_ble_eq_true rfl) ⟨Nat.le_of_ble_eq_true rfl, Nat.le_of_ble_eq_true rfl⟩ d_W_takeTasks_58 ?_
          refine r_goto (tgt := 117) X d_W_takeTasks_61 (by decide) ?_
          refine r_widen (kc2 := 0) (ks2 := 0) (Nat.le_of_ble_eq_true rfl) (Nat.le_of_ble_eq_true rfl) ?_
          refine r_sub [0, 1] (lv' := [(0, tR v0), (1, tI v1)]) rfl ?_
          exact b_W_takeTasks_117 X hret hlk hnm n (f_W_takeTasks_2 n i) ih v0 v1 σ67 hf
      · have hf := (if_pos hc22).symm.trans hf
        refine r_goto (tgt := 117) X d_W_takeTasks_37 (by decide) ?_
        refine r_widen (kc2 := 0) (ks2 := 0) (Nat.le_of_ble_eq_true rfl) (Nat.le_of_ble_eq_true rfl) ?_
        refine r_sub [0, 1] (lv' := [(0, tR v0), (1, tI v1)]) rfl ?_
        exact b_W_takeTasks_117 X hret hlk hnm n (f_W_takeTasks_2 n i) ih v0 v1 σ20 hf

def f_W_takeTasks (n : Nat) (v0 : Option Nat) (σ : Hp) : Option Hp :=
  f_W_takeTasks_2 n  n v0 0 σ
set_option maxRecDepth 100000 in
theorem c_W_takeTasks {l : Launch} {DD : DT} (n : Nat) (v0 : Option Nat) {σ0 σz : Hp} (hf : f_W_takeTasks n v0 σ0 = some σz) : CT l DD y_W_takeTasks prog_1_method_28_code 3 none rm_W_takeTasks [tR v0] σ0 none σz := by
  refine r_met (by decide) (Nat.le_of_ble_eq_true rfl) ?_
  intro p e s m args below meth c X hret hlk hnm
  unfold f_W_takeTasks at hf
  refine r_iconst (v := 0) X d_W_takeTasks_0 (by decide) ?_
  refine r_istore_n (lv' := [(0, tR v0), (1, tI 0)]) X [1, 0] d_W_takeTasks_1 rfl (Nat.le_of_ble_eq_true rfl) rfl ?_
  refine r_widen (kc2 := 0) (ks2 := 0) (Nat.le_of_ble_eq_true rfl) (Nat.le_of_ble_eq_true rfl) ?_
  refine r_sub [0, 1] (lv' := [(0, tR v0), (1, tI 0)]) rfl ?_
  exact b_W_takeTasks_2 X hret hlk hnm n   n v0 0 σ0 hf

def f_W_expire_8 (n : Nat)  : Nat → Option Nat → Int32 → Hp → Option Hp
  | 0, _, _, _ => none
  | i + 1, v0, v1, σ =>
    if v1 ≤ 0 then
    (
      some σ)
    else
    (
      Option.bind (ld_R σ v0 0 8) fun x9 =>
      Option.bind (ld_R σ v0 0 6) fun x11 =>
      Option.bind (ld_L σ x11 4 2) fun x13 =>
      Option.bind (is_O σ x9 8) fun x16 =>
      pb (f_Rs_firstOver n x9 x13 σ) fun x19 σ18 =>
      if x19 = none then
      (
        some σ18)
      else
      (
        Option.bind (is_O σ18 v0 0) fun x22 =>
        Option.bind (f_W_dropFromMap v0 x19 2 σ18) fun σ24 =>
        Option.bind (ld_R σ24 v0 0 8) fun x25 =>
        Option.bind (is_O σ24 x25 8) fun x28 =>
        Option.bind (f_Rs_takeOut x25 x19 σ24) fun σ30 =>
        f_W_expire_8 n i v0 (v1 + (-1)) σ30))
set_option maxRecDepth 100000 in
theorem b_W_expire_8 {p : Program} {l : Launch} {e : Env} {s : State} {m : MethodId} {args : Array Value} {below : List Frame} {meth : Method} {c : Code} {DD : DT} {σ0 σz : Hp} (X : CX p s m args c prog_1_method_29_code 3 (dm σ0) DD y_W_expire.cls) (hret : meth.sig.returnType = none) (hlk : meth.locks = false) (hnm : meth.name = y_W_expire.name) (n : Nat)   : ∀ (i : Nat) (v0 : Option Nat) (v1 : Int32) (σ : Hp) (hf : f_W_expire_8 n  i v0 v1 σ = some σz), GG p l e rm_W_expire s m args below meth c 3 (dm σ0) DD (MQ below (Post DD σ0 none σz) args s rm_W_expire.cells rm_W_expire.slots (dm σ0)) 0 0 σ 8 [(0, tR v0), (1, tI v1)] [] := by
  intro i
  induction i with
  | zero => intro v0 v1 σ hf; cases hf
  | succ i ih =>
    intro v0 v1 σ hf
    simp only [f_W_expire_8] at hf
    refine r_iload_n X d_W_expire_8 rfl 1 rfl ?_
    refine r_if_le (tgt := 52) X d_W_expire_9 (by decide) (fun hc8 => ?_) (fun hc8 => ?_)
    · have hf := (if_pos hc8).symm.trans hf
      cases hf
      refine r_widen (kc2 := rm_W_expire.cells) (ks2 := rm_W_expire.slots) (Nat.le_of_ble_eq_true rfl) (Nat.le_of_ble_eq_true rfl) ?_
      exact r_vret X hret hlk d_W_expire_52
    · have hf := (if_neg hc8).symm.trans hf
      refine r_aload_n X d_W_expire_12 rfl 0 rfl ?_
      obtain ⟨x9, h10, hf⟩ := obind hf
      refine r_ld_R (ci := 0) (k := 8) X h10 (Nat.le_of_ble_eq_true rfl) (Nat.le_of_ble_eq_true rfl) rfl rfl q229 d_W_expire_13 ?_
      refine r_aload_n X d_W_expire_16 rfl 0 rfl ?_
      obtain ⟨x11, h12, hf⟩ := obind hf
      refine r_ld_R (ci := 0) (k := 6) X h12 (Nat.le_of_ble_eq_true rfl) (Nat.le_of_ble_eq_true rfl) rfl rfl q227 d_W_expire_17 ?_
      obtain ⟨x13, h14, hf⟩ := obind hf
      refine r_ld_L (ci := 4) (k := 2) X h14 (Nat.le_of_ble_eq_true rfl) (Nat.le_of_ble_eq_true rfl) rfl rfl q107 d_W_expire_20 ?_
      obtain ⟨x16, h15, hf⟩ := obind hf
      obtain ⟨x19, σ18, h17, hf⟩ := pbind hf
      refine r_callV (st := []) X [tL x13] (ci := 8) h15 (Nat.le_of_ble_eq_true rfl) q380 q381 q382 (c_Rs_firstOver n x9 x13 h17) q383 q8 y_Rs_firstOver_ok rfl ⟨Nat.le_of_ble_eq_true rfl, Nat.le_of_ble_eq_true rfl⟩ (Nat.le_of_ble_eq_true rfl) ⟨Nat.le_of_ble_eq_true rfl, Nat.le_of_ble_eq_true rfl⟩ d_W_expire_23 ?_
      refine r_astore_n (lv' := [(0, tR v0), (1, tI v1), (2, tR x19)]) X [1, 2, 0] d_W_expire_26 rfl (Nat.le_of_ble_eq_true rfl) rfl ?_
      refine r_aload_n X d_W_expire_27 rfl 2 rfl ?_
      refine r_ifnonnull (tgt := 32) X d_W_expire_28 (by decide) (fun hc20 => ?_) (fun hc20 => ?_)
      · have hf := (if_neg hc20).symm.trans hf
        refine r_aload_n X d_W_expire_32 rfl 0 rfl ?_
        refine r_aload_n X d_W_expire_33 rfl 2 rfl ?_
        refine r_iconst (v := 2) X d_W_expire_34 (by decide) ?_
        obtain ⟨x22, h21, hf⟩ := obind hf
        obtain ⟨σ24, h23, hf⟩ := obind hf
        refine r_callV (st := []) X [tR x19, tI 2] (ci := 0) h21 (Nat.le_of_ble_eq_true rfl) q305 q307 sl2 (c_W_dropFromMap v0 x19 2 h23) q308 q1 y_W_dropFromMap_ok rfl ⟨Nat.le_of_ble_eq_true rfl, Nat.le_of_ble_eq_true rfl⟩ (Nat.le_of_ble_eq_true rfl) ⟨Nat.le_of_ble_eq_true rfl, Nat.le_of_ble_eq_true rfl⟩ d_W_expire_35 ?_
        refine r_aload_n X d_W_expire_38 rfl 0 rfl ?_
        obtain ⟨x25, h26, hf⟩ := obind hf
        refine r_ld_R (ci := 0) (k := 8) X h26 (Nat.le_of_ble_eq_true rfl) (Nat.le_of_ble_eq_true rfl) rfl rfl q229 d_W_expire_39 ?_
        refine r_aload_n X d_W_expire_42 rfl 2 rfl ?_
        obtain ⟨x28, h27, hf⟩ := obind hf
        obtain ⟨σ30, h29, hf⟩ := obind hf
        refine r_callV (st := []) X [tR x19] (ci := 8) h27 (Nat.le_of_ble_eq_true rfl) q367 q368 q369 (c_Rs_takeOut x25 x19 h29) q370 q8 y_Rs_takeOut_ok rfl ⟨Nat.le_of_ble_eq_true rfl, Nat.le_of_ble_eq_true rfl⟩ (Nat.le_of_ble_eq_true rfl) ⟨Nat.le_of_ble_eq_true rfl, Nat.le_of_ble_eq_true rfl⟩ d_W_expire_43 ?_
        refine r_iinc (lv' := [(0, tR v0), (1, tI (v1 + (-1))), (2, tR x19)]) (j := 1) X [1, 0, 2] d_W_expire_46 rfl rfl (Nat.le_of_ble_eq_true rfl) rfl ?_
        refine r_goto (tgt := 8) X d_W_expire_49 (by decide) ?_
        refine r_widen (kc2 := 0) (ks2 := 0) (Nat.le_of_ble_eq_true rfl) (Nat.le_of_ble_eq_true rfl) ?_
        refine r_sub [0, 1] (lv' := [(0, tR v0), (1, tI (v1 + (-1)))]) rfl ?_
        exact ih v0 (v1 + (-1)) σ30 hf
      · have hf := (if_pos hc20).symm.trans hf
        cases hf
        refine r_widen (kc2 := rm_W_expire.cells) (ks2 := rm_W_expire.slots) (Nat.le_of_ble_eq_true rfl) (Nat.le_of_ble_eq_true rfl) ?_
        exact r_vret X hret hlk d_W_expire_31

def f_W_expire (n : Nat) (v0 : Option Nat) (σ : Hp) : Option Hp :=
  Option.bind (ld_R σ v0 0 8) fun x1 =>
  Option.bind (is_O σ x1 8) fun x4 =>
  pb (f_Rs_size x1 σ) fun x7 σ6 =>
  f_W_expire_8 n  n v0 x7 σ6
set_option maxRecDepth 100000 in
theorem c_W_expire {l : Launch} {DD : DT} (n : Nat) (v0 : Option Nat) {σ0 σz : Hp} (hf : f_W_expire n v0 σ0 = some σz) : CT l DD y_W_expire prog_1_method_29_code 3 none rm_W_expire [tR v0] σ0 none σz := by
  refine r_met (by decide) (Nat.le_of_ble_eq_true rfl) ?_
  intro p e s m args below meth c X hret hlk hnm
  unfold f_W_expire at hf
  refine r_aload_n X d_W_expire_0 rfl 0 rfl ?_
  obtain ⟨x1, h2, hf⟩ := obind hf
  refine r_ld_R (ci := 0) (k := 8) X h2 (Nat.le_of_ble_eq_true rfl) (Nat.le_of_ble_eq_true rfl) rfl rfl q229 d_W_expire_1 ?_
  obtain ⟨x4, h3, hf⟩ := obind hf
  obtain ⟨x7, σ6, h5, hf⟩ := pbind hf
  refine r_callV (st := []) X [] (ci := 8) h3 (Nat.le_of_ble_eq_true rfl) q376 q377 q378 (c_Rs_size x1 h5) q379 q8 y_Rs_size_ok rfl ⟨Nat.le_of_ble_eq_true rfl, Nat.le_of_ble_eq_true rfl⟩ (Nat.le_of_ble_eq_true rfl) ⟨Nat.le_of_ble_eq_true rfl, Nat.le_of_ble_eq_true rfl⟩ d_W_expire_4 ?_
  refine r_istore_n (lv' := [(0, tR v0), (1, tI x7)]) X [1, 0] d_W_expire_7 rfl (Nat.le_of_ble_eq_true rfl) rfl ?_
  refine r_widen (kc2 := 0) (ks2 := 0) (Nat.le_of_ble_eq_true rfl) (Nat.le_of_ble_eq_true rfl) ?_
  refine r_sub [0, 1] (lv' := [(0, tR v0), (1, tI x7)]) rfl ?_
  exact b_W_expire_8 X hret hlk hnm n   n v0 x7 σ6 hf

def f_W_nextDraw (v0 : Option Nat) (σ : Hp) : Option (Int32 × Hp) :=
  Option.bind (ld_I σ v0 0 10) fun x1 =>
  Option.bind (ld_I σ v0 0 10) fun x3 =>
  Option.bind (st_I σ v0 0 10 (x1 ^^^ (x3 <<< (13 &&& 31)))) fun σ5 =>
  Option.bind (ld_I σ5 v0 0 10) fun x7 =>
  Option.bind (ld_I σ5 v0 0 10) fun x9 =>
  Option.bind (st_I σ5 v0 0 10 (x7 ^^^ (iushr_ x9 17))) fun σ11 =>
  Option.bind (ld_I σ11 v0 0 10) fun x13 =>
  Option.bind (ld_I σ11 v0 0 10) fun x15 =>
  Option.bind (st_I σ11 v0 0 10 (x13 ^^^ (x15 <<< (5 &&& 31)))) fun σ17 =>
  Option.bind (ld_I σ17 v0 0 10) fun x19 =>
  some (x19, σ17)
set_option maxRecDepth 100000 in
theorem c_W_nextDraw {l : Launch} {DD : DT} (v0 : Option Nat) {σ0 σz : Hp} {rz : Int32} (hf : f_W_nextDraw v0 σ0 = some (rz, σz)) : CT l DD y_W_nextDraw prog_1_method_32_code 1 (some .int) rm_W_nextDraw [tR v0] σ0 (some (tI rz)) σz := by
  refine r_met (by decide) (Nat.le_of_ble_eq_true rfl) ?_
  intro p e s m args below meth c X hret hlk hnm
  unfold f_W_nextDraw at hf
  refine r_aload_n X d_W_nextDraw_0 rfl 0 rfl ?_
  refine r_dup X d_W_nextDraw_1 rfl ?_
  obtain ⟨x1, h2, hf⟩ := obind hf
  refine r_ld_I (ci := 0) (k := 10) X h2 (Nat.le_of_ble_eq_true rfl) (Nat.le_of_ble_eq_true rfl) (Or.inl rfl) rfl q231 d_W_nextDraw_2 ?_
  refine r_aload_n X d_W_nextDraw_5 rfl 0 rfl ?_
  obtain ⟨x3, h4, hf⟩ := obind hf
  refine r_ld_I (ci := 0) (k := 10) X h4 (Nat.le_of_ble_eq_true rfl) (Nat.le_of_ble_eq_true rfl) (Or.inl rfl) rfl q231 d_W_nextDraw_6 ?_
  refine r_bipush (v := 13) X d_W_nextDraw_9 (by decide) ?_
  refine r_ishl X d_W_nextDraw_11 ?_
  refine r_ixor X d_W_nextDraw_12 ?_
  obtain ⟨σ5, h6, hf⟩ := obind hf
  refine r_st_I (ci := 0) (k := 10) X h6 (Nat.le_of_ble_eq_true rfl) (Nat.le_of_ble_eq_true rfl) rfl rfl rfl q231 d_W_nextDraw_13 ?_
  refine r_aload_n X d_W_nextDraw_16 rfl 0 rfl ?_
  refine r_dup X d_W_nextDraw_17 rfl ?_
  obtain ⟨x7, h8, hf⟩ := obind hf
  refine r_ld_I (ci := 0) (k := 10) X h8 (Nat.le_of_ble_eq_true rfl) (Nat.le_of_ble_eq_true rfl) (Or.inl rfl) rfl q231 d_W_nextDraw_18 ?_
  refine r_aload_n X d_W_nextDraw_21 rfl 0 rfl ?_
  obtain ⟨x9, h10, hf⟩ := obind hf
  refine r_ld_I (ci := 0) (k := 10) X h10 (Nat.le_of_ble_eq_true rfl) (Nat.le_of_ble_eq_true rfl) (Or.inl rfl) rfl q231 d_W_nextDraw_22 ?_
  refine r_bipush (v := 17) X d_W_nextDraw_25 (by decide) ?_
  refine r_iushr X d_W_nextDraw_27 ?_
  refine r_ixor X d_W_nextDraw_28 ?_
  obtain ⟨σ11, h12, hf⟩ := obind hf
  refine r_st_I (ci := 0) (k := 10) X h12 (Nat.le_of_ble_eq_true rfl) (Nat.le_of_ble_eq_true rfl) rfl rfl rfl q231 d_W_nextDraw_29 ?_
  refine r_aload_n X d_W_nextDraw_32 rfl 0 rfl ?_
  refine r_dup X d_W_nextDraw_33 rfl ?_
  obtain ⟨x13, h14, hf⟩ := obind hf
  refine r_ld_I (ci := 0) (k := 10) X h14 (Nat.le_of_ble_eq_true rfl) (Nat.le_of_ble_eq_true rfl) (Or.inl rfl) rfl q231 d_W_nextDraw_34 ?_
  refine r_aload_n X d_W_nextDraw_37 rfl 0 rfl ?_
  obtain ⟨x15, h16, hf⟩ := obind hf
  refine r_ld_I (ci := 0) (k := 10) X h16 (Nat.le_of_ble_eq_true rfl) (Nat.le_of_ble_eq_true rfl) (Or.inl rfl) rfl q231 d_W_nextDraw_38 ?_
  refine r_iconst (v := 5) X d_W_nextDraw_41 (by decide) ?_
  refine r_ishl X d_W_nextDraw_42 ?_
  refine r_ixor X d_W_nextDraw_43 ?_
  obtain ⟨σ17, h18, hf⟩ := obind hf
  refine r_st_I (ci := 0) (k := 10) X h18 (Nat.le_of_ble_eq_true rfl) (Nat.le_of_ble_eq_true rfl) rfl rfl rfl q231 d_W_nextDraw_44 ?_
  refine r_aload_n X d_W_nextDraw_47 rfl 0 rfl ?_
  obtain ⟨x19, h20, hf⟩ := obind hf
  refine r_ld_I (ci := 0) (k := 10) X h20 (Nat.le_of_ble_eq_true rfl) (Nat.le_of_ble_eq_true rfl) (Or.inl rfl) rfl q231 d_W_nextDraw_48 ?_
  cases hf
  refine r_widen (kc2 := rm_W_nextDraw.cells) (ks2 := rm_W_nextDraw.slots) (Nat.le_of_ble_eq_true rfl) (Nat.le_of_ble_eq_true rfl) ?_
  exact r_iret X hret hlk d_W_nextDraw_51

def f_W_loserOf (n : Nat) (v0 : Option Nat) (v1 : Option Nat) (v2 : Option Nat) (σ : Hp) : Option (Option Nat × Hp) :=
  if v1 = v2 then
  (
    some (v2, σ))
  else
  (
    Option.bind (ld_R σ v0 0 7) fun x2 =>
    Option.bind (ld_I σ v1 3 0) fun x4 =>
    Option.bind (is_O σ x2 2) fun x7 =>
    pb (f_Co_leastOf n x2 x4 σ) fun x10 σ9 =>
    Option.bind (ld_R σ9 v0 0 7) fun x11 =>
    Option.bind (ld_I σ9 v2 3 0) fun x13 =>
    Option.bind (is_O σ9 x11 2) fun x16 =>
    pb (f_Co_leastOf n x11 x13 σ9) fun x19 σ18 =>
    if x10 ≤ x19 then
    (
      if 5 < x10 then
      (
        Option.bind (is_O σ18 v0 0) fun x23 =>
        pb (f_W_nextDraw v0 σ18) fun x26 σ25 =>
        if (x26 - x26 / 128 * 128) = 0 then
        (
          some (v2, σ25))
        else
        (
          some (v1, σ25)))
      else
      (
        some (v1, σ18)))
    else
    (
      some (v2, σ18)))
set_option maxRecDepth 100000 in
theorem c_W_loserOf {l : Launch} {DD : DT} (n : Nat) (v0 : Option Nat) (v1 : Option Nat) (v2 : Option Nat) {σ0 σz : Hp} {rz : Option Nat} (hf : f_W_loserOf n v0 v1 v2 σ0 = some (rz, σz)) : CT l DD y_W_loserOf prog_1_method_31_code 4 (some (.object "WindowCache$Entry")) rm_W_loserOf [tR v0, tR v1, tR v2] σ0 (some (tR rz)) σz := by
  refine r_met (by decide) (Nat.le_of_ble_eq_true rfl) ?_
  intro p e s m args below meth c X hret hlk hnm
  unfold f_W_loserOf at hf
  refine r_aload_n X d_W_loserOf_0 rfl 1 rfl ?_
  refine r_aload_n X d_W_loserOf_1 rfl 2 rfl ?_
  refine r_acmp_ne (tgt := 7) X d_W_loserOf_2 (by decide) (fun hc1 => ?_) (fun hc1 => ?_)
  · have hf := (if_neg hc1).symm.trans hf
    refine r_aload_n X d_W_loserOf_7 rfl 0 rfl ?_
    obtain ⟨x2, h3, hf⟩ := obind hf
    refine r_ld_R (ci := 0) (k := 7) X h3 (Nat.le_of_ble_eq_true rfl) (Nat.le_of_ble_eq_true rfl) rfl rfl q228 d_W_loserOf_8 ?_
    refine r_aload_n X d_W_loserOf_11 rfl 1 rfl ?_
    obtain ⟨x4, h5, hf⟩ := obind hf
    refine r_ld_I (ci := 3) (k := 0) X h5 (Nat.le_of_ble_eq_true rfl) (Nat.le_of_ble_eq_true rfl) (Or.inl rfl) rfl q607 d_W_loserOf_12 ?_
    obtain ⟨x7, h6, hf⟩ := obind hf
    obtain ⟨x10, σ9, h8, hf⟩ := pbind hf
    refine r_callV (st := []) X [tI x4] (ci := 2) h6 (Nat.le_of_ble_eq_true rfl) q415 q416 q417 (c_Co_leastOf n x2 x4 h8) q418 q7 y_Co_leastOf_ok rfl ⟨Nat.le_of_ble_eq_true rfl, Nat.le_of_ble_eq_true rfl⟩ (Nat.le_of_ble_eq_true rfl) ⟨Nat.le_of_ble_eq_true rfl, Nat.le_of_ble_eq_true rfl⟩ d_W_loserOf_15 ?_
    refine r_istore_n (lv' := [(0, tR v0), (1, tR v1), (2, tR v2), (3, tI x10)]) X [1, 2, 3, 0] d_W_loserOf_18 rfl (Nat.le_of_ble_eq_true rfl) rfl ?_
    refine r_iload_n X d_W_loserOf_19 rfl 3 rfl ?_
    refine r_aload_n X d_W_loserOf_20 rfl 0 rfl ?_
    obtain ⟨x11, h12, hf⟩ := obind hf
    refine r_ld_R (ci := 0) (k := 7) X h12 (Nat.le_of_ble_eq_true rfl) (Nat.le_of_ble_eq_true rfl) rfl rfl q228 d_W_loserOf_21 ?_
    refine r_aload_n X d_W_loserOf_24 rfl 2 rfl ?_
    obtain ⟨x13, h14, hf⟩ := obind hf
    refine r_ld_I (ci := 3) (k := 0) X h14 (Nat.le_of_ble_eq_true rfl) (Nat.le_of_ble_eq_true rfl) (Or.inl rfl) rfl q607 d_W_loserOf_25 ?_
    obtain ⟨x16, h15, hf⟩ := obind hf
    obtain ⟨x19, σ18, h17, hf⟩ := pbind hf
    refine r_callV (st := [tI x10]) X [tI x13] (ci := 2) h15 (Nat.le_of_ble_eq_true rfl) q415 q416 q417 (c_Co_leastOf n x11 x13 h17) q418 q7 y_Co_leastOf_ok rfl ⟨Nat.le_of_ble_eq_true rfl, Nat.le_of_ble_eq_true rfl⟩ (Nat.le_of_ble_eq_true rfl) ⟨Nat.le_of_ble_eq_true rfl, Nat.le_of_ble_eq_true rfl⟩ d_W_loserOf_28 ?_
    refine r_icmp_le (tgt := 36) X d_W_loserOf_31 (by decide) (fun hc20 => ?_) (fun hc20 => ?_)
    · have hf := (if_pos hc20).symm.trans hf
      refine r_iload_n X d_W_loserOf_36 rfl 3 rfl ?_
      refine r_iconst (v := 5) X d_W_loserOf_37 (by decide) ?_
      refine r_icmp_gt (tgt := 43) X d_W_loserOf_38 (by decide) (fun hc21 => ?_) (fun hc21 => ?_)
      · have hf := (if_pos hc21).symm.trans hf
        refine r_aload_n X d_W_loserOf_43 rfl 0 rfl ?_
        obtain ⟨x23, h22, hf⟩ := obind hf
        obtain ⟨x26, σ25, h24, hf⟩ := pbind hf
        refine r_callV (st := []) X [] (ci := 0) h22 (Nat.le_of_ble_eq_true rfl) q420 q422 sl9 (c_W_nextDraw v0 h24) q423 q1 y_W_nextDraw_ok rfl ⟨Nat.le_of_ble_eq_true rfl, Nat.le_of_ble_eq_true rfl⟩ (Nat.le_of_ble_eq_true rfl) ⟨Nat.le_of_ble_eq_true rfl, Nat.le_of_ble_eq_true rfl⟩ d_W_loserOf_44 ?_
        refine r_sipush (v := 128) X d_W_loserOf_47 (by decide) ?_
        refine r_irem X d_W_loserOf_50 (by decide) ?_
        refine r_if_ne (tgt := 58) X d_W_loserOf_51 (by decide) (fun hc27 => ?_) (fun hc27 => ?_)
        · have hf := (if_neg hc27).symm.trans hf
          refine r_aload_n X d_W_loserOf_58 rfl 1 rfl ?_
          cases hf
          refine r_widen (kc2 := rm_W_loserOf.cells) (ks2 := rm_W_loserOf.slots) (Nat.le_of_ble_eq_true rfl) (Nat.le_of_ble_eq_true rfl) ?_
          exact r_aret X hret hlk d_W_loserOf_59
        · have hf := (if_pos hc27).symm.trans hf
          refine r_aload_n X d_W_loserOf_54 rfl 2 rfl ?_
          refine r_goto (tgt := 59) X d_W_loserOf_55 (by decide) ?_
          cases hf
          refine r_widen (kc2 := rm_W_loserOf.cells) (ks2 := rm_W_loserOf.slots) (Nat.le_of_ble_eq_true rfl) (Nat.le_of_ble_eq_true rfl) ?_
          exact r_aret X hret hlk d_W_loserOf_59
      · have hf := (if_neg hc21).symm.trans hf
        refine r_aload_n X d_W_loserOf_41 rfl 1 rfl ?_
        cases hf
        refine r_widen (kc2 := rm_W_loserOf.cells) (ks2 := rm_W_loserOf.slots) (Nat.le_of_ble_eq_true rfl) (Nat.le_of_ble_eq_true rfl) ?_
        exact r_aret X hret hlk d_W_loserOf_42
    · have hf := (if_neg hc20).symm.trans hf
      refine r_aload_n X d_W_loserOf_34 rfl 2 rfl ?_
      cases hf
      refine r_widen (kc2 := rm_W_loserOf.cells) (ks2 := rm_W_loserOf.slots) (Nat.le_of_ble_eq_true rfl) (Nat.le_of_ble_eq_true rfl) ?_
      exact r_aret X hret hlk d_W_loserOf_35
  · have hf := (if_pos hc1).symm.trans hf
    refine r_aload_n X d_W_loserOf_5 rfl 2 rfl ?_
    cases hf
    refine r_widen (kc2 := rm_W_loserOf.cells) (ks2 := rm_W_loserOf.slots) (Nat.le_of_ble_eq_true rfl) (Nat.le_of_ble_eq_true rfl) ?_
    exact r_aret X hret hlk d_W_loserOf_6

def f_W_evict_76 (n : Nat) (rec10 : Option Nat → Option Nat → Int32 → Hp → Option Hp) (v0 : Option Nat) (v3 : Int32) (v5 : Option Nat) (w0 : Option Nat) (σ : Hp) : Option Hp :=
  Option.bind (ld_I σ v0 0 13) fun x38 =>
  Option.bind (st_I σ v0 0 13 (x38 + 1)) fun σ40 =>
  Option.bind (ld_I σ40 v0 0 14) fun x42 =>
  Option.bind (ld_I σ40 v5 3 2) fun x44 =>
  Option.bind (st_I σ40 v0 0 14 (x42 + x44)) fun σ46 =>
  Option.bind (is_O σ46 v0 0) fun x49 =>
  Option.bind (f_W_dropFromMap v0 v5 3 σ46) fun σ51 =>
  Option.bind (ld_R σ51 v0 0 8) fun x52 =>
  Option.bind (is_O σ51 x52 8) fun x55 =>
  Option.bind (f_Rs_takeOut x52 v5 σ51) fun σ57 =>
  rec10 v0 w0 (v3 + (-1)) σ57
set_option maxRecDepth 100000 in
theorem b_W_evict_76 {p : Program} {l : Launch} {e : Env} {s : State} {m : MethodId} {args : Array Value} {below : List Frame} {meth : Method} {c : Code} {DD : DT} {σ0 σz : Hp} (X : CX p s m args c prog_1_method_30_code 6 (dm σ0) DD y_W_evict.cls) (hret : meth.sig.returnType = none) (hlk : meth.locks = false) (hnm : meth.name = y_W_evict.name) (n : Nat) (rec10 : Option Nat → Option Nat → Int32 → Hp → Option Hp) (hrec10 : ∀ (v0 : Option Nat) (v2 : Option Nat) (v3 : Int32) (σ : Hp), rec10 v0 v2 v3 σ = some σz → GG p l e rm_W_evict s m args below meth c 6 (dm σ0) DD (MQ below (Post DD σ0 none σz) args s rm_W_evict.cells rm_W_evict.slots (dm σ0)) 0 0 σ 10 [(0, tR v0), (2, tR v2), (3, tI v3)] []) (v0 : Option Nat) (v3 : Int32) (v5 : Option Nat) (w0 : Option Nat) (σ : Hp) (hf : f_W_evict_76 n rec10 v0 v3 v5 w0 σ = some σz) : GG p l e rm_W_evict s m args below meth c 6 (dm σ0) DD (MQ below (Post DD σ0 none σz) args s rm_W_evict.cells rm_W_evict.slots (dm σ0)) 0 0 σ 76 [(0, tR v0), (3, tI v3), (5, tR v5)] [tR w0] := by
  unfold f_W_evict_76 at hf
  refine r_astore_n (lv' := [(0, tR v0), (2, tR w0), (3, tI v3), (5, tR v5)]) X [1, 0, 2, 3] d_W_evict_76 rfl (Nat.le_of_ble_eq_true rfl) rfl ?_
  refine r_aload_n X d_W_evict_77 rfl 0 rfl ?_
  refine r_dup X d_W_evict_78 rfl ?_
  obtain ⟨x38, h39, hf⟩ := obind hf
  refine r_ld_I (ci := 0) (k := 13) X h39 (Nat.le_of_ble_eq_true rfl) (Nat.le_of_ble_eq_true rfl) (Or.inl rfl) rfl q234 d_W_evict_79 ?_
  refine r_iconst (v := 1) X d_W_evict_82 (by decide) ?_
  refine r_iadd X d_W_evict_83 ?_
  obtain ⟨σ40, h41, hf⟩ := obind hf
  refine r_st_I (ci := 0) (k := 13) X h41 (Nat.le_of_ble_eq_true rfl) (Nat.le_of_ble_eq_true rfl) rfl rfl rfl q234 d_W_evict_84 ?_
  refine r_aload_n X d_W_evict_87 rfl 0 rfl ?_
  refine r_dup X d_W_evict_88 rfl ?_
  obtain ⟨x42, h43, hf⟩ := obind hf
  refine r_ld_I (ci := 0) (k := 14) X h43 (Nat.le_of_ble_eq_true rfl) (Nat.le_of_ble_eq_true rfl) (Or.inl rfl) rfl q235 d_W_evict_89 ?_
  refine r_aload X d_W_evict_92 3 rfl ?_
  obtain ⟨x44, h45, hf⟩ := obind hf
  refine r_ld_I (ci := 3) (k := 2) X h45 (Nat.le_of_ble_eq_true rfl) (Nat.le_of_ble_eq_true rfl) (Or.inl rfl) rfl q612 d_W_evict_94 ?_
  refine r_iadd X d_W_evict_97 ?_
  obtain ⟨σ46, h47, hf⟩ := obind hf
  refine r_st_I (ci := 0) (k := 14) X h47 (Nat.le_of_ble_eq_true rfl) (Nat.le_of_ble_eq_true rfl) rfl rfl rfl q235 d_W_evict_98 ?_
  refine r_aload_n X d_W_evict_101 rfl 0 rfl ?_
  refine r_aload X d_W_evict_102 3 rfl ?_
  refine r_iconst (v := 3) X d_W_evict_104 (by decide) ?_
  obtain ⟨x49, h48, hf⟩ := obind hf
  obtain ⟨σ51, h50, hf⟩ := obind hf
  refine r_callV (st := []) X [tR v5, tI 3] (ci := 0) h48 (Nat.le_of_ble_eq_true rfl) q305 q307 sl2 (c_W_dropFromMap v0 v5 3 h50) q308 q1 y_W_dropFromMap_ok rfl ⟨Nat.le_of_ble_eq_true rfl, Nat.le_of_ble_eq_true rfl⟩ (Nat.le_of_ble_eq_true rfl) ⟨Nat.le_of_ble_eq_true rfl, Nat.le_of_ble_eq_true rfl⟩ d_W_evict_105 ?_
  refine r_aload_n X d_W_evict_108 rfl 0 rfl ?_
  obtain ⟨x52, h53, hf⟩ := obind hf
  refine r_ld_R (ci := 0) (k := 8) X h53 (Nat.le_of_ble_eq_true rfl) (Nat.le_of_ble_eq_true rfl) rfl rfl q229 d_W_evict_109 ?_
  refine r_aload X d_W_evict_112 3 rfl ?_
  obtain ⟨x55, h54, hf⟩ := obind hf
  obtain ⟨σ57, h56, hf⟩ := obind hf
  refine r_callV (st := []) X [tR v5] (ci := 8) h54 (Nat.le_of_ble_eq_true rfl) q367 q368 q369 (c_Rs_takeOut x52 v5 h56) q370 q8 y_Rs_takeOut_ok rfl ⟨Nat.le_of_ble_eq_true rfl, Nat.le_of_ble_eq_true rfl⟩ (Nat.le_of_ble_eq_true rfl) ⟨Nat.le_of_ble_eq_true rfl, Nat.le_of_ble_eq_true rfl⟩ d_W_evict_114 ?_
  refine r_iinc (lv' := [(0, tR v0), (2, tR w0), (3, tI (v3 + (-1))), (5, tR v5)]) (j := 2) X [1, 2, 0, 3] d_W_evict_117 rfl rfl (Nat.le_of_ble_eq_true rfl) rfl ?_
  refine r_goto (tgt := 10) X d_W_evict_120 (by decide) ?_
  refine r_widen (kc2 := 0) (ks2 := 0) (Nat.le_of_ble_eq_true rfl) (Nat.le_of_ble_eq_true rfl) ?_
  refine r_sub [0, 1, 2] (lv' := [(0, tR v0), (2, tR w0), (3, tI (v3 + (-1)))]) rfl ?_
  exact hrec10 v0 w0 (v3 + (-1)) σ57 hf

def f_W_evict_62 (n : Nat) (rec10 : Option Nat → Option Nat → Int32 → Hp → Option Hp) (v0 : Option Nat) (v2 : Option Nat) (v3 : Int32) (w0 : Option Nat) (σ : Hp) : Option Hp :=
  if v2 = none then
  (
    f_W_evict_76 n rec10 v0 v3 w0 none σ)
  else
  (
    Option.bind (ld_R σ v2 3 10) fun x36 =>
    f_W_evict_76 n rec10 v0 v3 w0 x36 σ)
set_option maxRecDepth 100000 in
theorem b_W_evict_62 {p : Program} {l : Launch} {e : Env} {s : State} {m : MethodId} {args : Array Value} {below : List Frame} {meth : Method} {c : Code} {DD : DT} {σ0 σz : Hp} (X : CX p s m args c prog_1_method_30_code 6 (dm σ0) DD y_W_evict.cls) (hret : meth.sig.returnType = none) (hlk : meth.locks = false) (hnm : meth.name = y_W_evict.name) (n : Nat) (rec10 : Option Nat → Option Nat → Int32 → Hp → Option Hp) (hrec10 : ∀ (v0 : Option Nat) (v2 : Option Nat) (v3 : Int32) (σ : Hp), rec10 v0 v2 v3 σ = some σz → GG p l e rm_W_evict s m args below meth c 6 (dm σ0) DD (MQ below (Post DD σ0 none σz) args s rm_W_evict.cells rm_W_evict.slots (dm σ0)) 0 0 σ 10 [(0, tR v0), (2, tR v2), (3, tI v3)] []) (v0 : Option Nat) (v2 : Option Nat) (v3 : Int32) (w0 : Option Nat) (σ : Hp) (hf : f_W_evict_62 n rec10 v0 v2 v3 w0 σ = some σz) : GG p l e rm_W_evict s m args below meth c 6 (dm σ0) DD (MQ below (Post DD σ0 none σz) args s rm_W_evict.cells rm_W_evict.slots (dm σ0)) 0 0 σ 62 [(0, tR v0), (2, tR v2), (3, tI v3)] [tR w0] := by
  unfold f_W_evict_62 at hf
  refine r_astore (lv' := [(0, tR v0), (2, tR v2), (3, tI v3), (5, tR w0)]) X [1, 2, 3, 0] d_W_evict_62 (Nat.le_of_ble_eq_true rfl) rfl ?_
  refine r_aload_n X d_W_evict_64 rfl 1 rfl ?_
  refine r_ifnonnull (tgt := 72) X d_W_evict_65 (by decide) (fun hc35 => ?_) (fun hc35 => ?_)
  · have hf := (if_neg hc35).symm.trans hf
    refine r_aload_n X d_W_evict_72 rfl 1 rfl ?_
    obtain ⟨x36, h37, hf⟩ := obind hf
    refine r_ld_R (ci := 3) (k := 10) X h37 (Nat.le_of_ble_eq_true rfl) (Nat.le_of_ble_eq_true rfl) rfl rfl q624 d_W_evict_73 ?_
    refine r_widen (kc2 := 0) (ks2 := 0) (Nat.le_of_ble_eq_true rfl) (Nat.le_of_ble_eq_true rfl) ?_
    refine r_sub [0, 2, 3] (lv' := [(0, tR v0), (3, tI v3), (5, tR w0)]) rfl ?_
    exact b_W_evict_76 X hret hlk hnm n rec10 hrec10 v0 v3 w0 x36 σ hf
  · have hf := (if_pos hc35).symm.trans hf
    refine r_null X d_W_evict_68 ?_
    refine r_goto (tgt := 76) X d_W_evict_69 (by decide) ?_
    refine r_widen (kc2 := 0) (ks2 := 0) (Nat.le_of_ble_eq_true rfl) (Nat.le_of_ble_eq_true rfl) ?_
    refine r_sub [0, 2, 3] (lv' := [(0, tR v0), (3, tI v3), (5, tR w0)]) rfl ?_
    exact b_W_evict_76 X hret hlk hnm n rec10 hrec10 v0 v3 w0 none σ hf

def f_W_evict_10 (n : Nat)  : Nat → Option Nat → Option Nat → Int32 → Hp → Option Hp
  | 0, _, _, _, _ => none
  | i + 1, v0, v2, v3, σ =>
    if v3 ≤ 0 then
    (
      some σ)
    else
    (
      Option.bind (ld_R σ v0 0 8) fun x9 =>
      Option.bind (is_O σ x9 8) fun x12 =>
      pb (f_Rs_weight x9 σ) fun x15 σ14 =>
      Option.bind (ld_R σ14 v0 0 8) fun x16 =>
      Option.bind (ld_I σ14 x16 8 0) fun x18 =>
      if x15 ≤ x18 then
      (
        some σ14)
      else
      (
        Option.bind (ld_R σ14 v0 0 8) fun x21 =>
        Option.bind (is_O σ14 x21 8) fun x24 =>
        pb (f_Rs_victim x21 σ14) fun x27 σ26 =>
        if x27 = none then
        (
          some σ26)
        else
        (
          if v2 = none then
          (
            f_W_evict_62 n (f_W_evict_10 n i) v0 v2 v3 x27 σ26)
          else
          (
            Option.bind (is_O σ26 v0 0) fun x31 =>
            pb (f_W_loserOf n v0 v2 x27 σ26) fun x34 σ33 =>
            f_W_evict_62 n (f_W_evict_10 n i) v0 v2 v3 x34 σ33))))
set_option maxRecDepth 100000 in
theorem b_W_evict_10 {p : Program} {l : Launch} {e : Env} {s : State} {m : MethodId} {args : Array Value} {below : List Frame} {meth : Method} {c : Code} {DD : DT} {σ0 σz : Hp} (X : CX p s m args c prog_1_method_30_code 6 (dm σ0) DD y_W_evict.cls) (hret : meth.sig.returnType = none) (hlk : meth.locks = false) (hnm : meth.name = y_W_evict.name) (n : Nat)   : ∀ (i : Nat) (v0 : Option Nat) (v2 : Option Nat) (v3 : Int32) (σ : Hp) (hf : f_W_evict_10 n  i v0 v2 v3 σ = some σz), GG p l e rm_W_evict s m args below meth c 6 (dm σ0) DD (MQ below (Post DD σ0 none σz) args s rm_W_evict.cells rm_W_evict.slots (dm σ0)) 0 0 σ 10 [(0, tR v0), (2, tR v2), (3, tI v3)] [] := by
  intro i
  induction i with
  | zero => intro v0 v2 v3 σ hf; cases hf
  | succ i ih =>
    intro v0 v2 v3 σ hf
    simp only [f_W_evict_10] at hf
    refine r_iload_n X d_W_evict_10 rfl 2 rfl ?_
    refine r_if_le (tgt := 123) X d_W_evict_11 (by decide) (fun hc8 => ?_) (fun hc8 => ?_)
    · have hf := (if_pos hc8).symm.trans hf
      cases hf
      refine r_widen (kc2 := rm_W_evict.cells) (ks2 := rm_W_evict.slots) (Nat.le_of_ble_eq_true rfl) (Nat.le_of_ble_eq_true rfl) ?_
      exact r_vret X hret hlk d_W_evict_123
    · have hf := (if_neg hc8).symm.trans hf
      refine r_aload_n X d_W_evict_14 rfl 0 rfl ?_
      obtain ⟨x9, h10, hf⟩ := obind hf
      refine r_ld_R (ci := 0) (k := 8) X h10 (Nat.le_of_ble_eq_true rfl) (Nat.le_of_ble_eq_true rfl) rfl rfl q229 d_W_evict_15 ?_
      obtain ⟨x12, h11, hf⟩ := obind hf
      obtain ⟨x15, σ14, h13, hf⟩ := pbind hf
      refine r_callV (st := []) X [] (ci := 8) h11 (Nat.le_of_ble_eq_true rfl) q403 q404 q405 (c_Rs_weight x9 h13) q406 q8 y_Rs_weight_ok rfl ⟨Nat.le_of_ble_eq_true rfl, Nat.le_of_ble_eq_true rfl⟩ (Nat.le_of_ble_eq_true rfl) ⟨Nat.le_of_ble_eq_true rfl, Nat.le_of_ble_eq_true rfl⟩ d_W_evict_18 ?_
      refine r_aload_n X d_W_evict_21 rfl 0 rfl ?_
      obtain ⟨x16, h17, hf⟩ := obind hf
      refine r_ld_R (ci := 0) (k := 8) X h17 (Nat.le_of_ble_eq_true rfl) (Nat.le_of_ble_eq_true rfl) rfl rfl q229 d_W_evict_22 ?_
      obtain ⟨x18, h19, hf⟩ := obind hf
      refine r_ld_I (ci := 8) (k := 0) X h19 (Nat.le_of_ble_eq_true rfl) (Nat.le_of_ble_eq_true rfl) (Or.inl rfl) rfl q163 d_W_evict_25 ?_
      refine r_icmp_le (tgt := 123) X d_W_evict_28 (by decide) (fun hc20 => ?_) (fun hc20 => ?_)
      · have hf := (if_pos hc20).symm.trans hf
        cases hf
        refine r_widen (kc2 := rm_W_evict.cells) (ks2 := rm_W_evict.slots) (Nat.le_of_ble_eq_true rfl) (Nat.le_of_ble_eq_true rfl) ?_
        exact r_vret X hret hlk d_W_evict_123
      · have hf := (if_neg hc20).symm.trans hf
        refine r_aload_n X d_W_evict_31 rfl 0 rfl ?_
        obtain ⟨x21, h22, hf⟩ := obind hf
        refine r_ld_R (ci := 0) (k := 8) X h22 (Nat.le_of_ble_eq_true rfl) (Nat.le_of_ble_eq_true rfl) rfl rfl q229 d_W_evict_32 ?_
        obtain ⟨x24, h23, hf⟩ := obind hf
        obtain ⟨x27, σ26, h25, hf⟩ := pbind hf
        refine r_callV (st := []) X [] (ci := 8) h23 (Nat.le_of_ble_eq_true rfl) q407 q408 q409 (c_Rs_victim x21 h25) q410 q8 y_Rs_victim_ok rfl ⟨Nat.le_of_ble_eq_true rfl, Nat.le_of_ble_eq_true rfl⟩ (Nat.le_of_ble_eq_true rfl) ⟨Nat.le_of_ble_eq_true rfl, Nat.le_of_ble_eq_true rfl⟩ d_W_evict_35 ?_
        refine r_astore (lv' := [(0, tR v0), (2, tR v2), (3, tI v3), (4, tR x27)]) X [1, 2, 3, 0] d_W_evict_38 (Nat.le_of_ble_eq_true rfl) rfl ?_
        refine r_aload X d_W_evict_40 3 rfl ?_
        refine r_ifnonnull (tgt := 46) X d_W_evict_42 (by decide) (fun hc28 => ?_) (fun hc28 => ?_)
        · have hf := (if_neg hc28).symm.trans hf
          refine r_aload_n X d_W_evict_46 rfl 1 rfl ?_
          refine r_ifnonnull (tgt := 55) X d_W_evict_47 (by decide) (fun hc29 => ?_) (fun hc29 => ?_)
          · have hf := (if_neg hc29).symm.trans hf
            refine r_aload_n X d_W_evict_55 rfl 0 rfl ?_
            refine r_aload_n X d_W_evict_56 rfl 1 rfl ?_
            refine r_aload X d_W_evict_57 3 rfl ?_
            obtain ⟨x31, h30, hf⟩ := obind hf
            obtain ⟨x34, σ33, h32, hf⟩ := pbind hf
            refine r_callV (st := []) X [tR v2, tR x27] (ci := 0) h30 (Nat.le_of_ble_eq_true rfl) q411 q413 sl8 (c_W_loserOf n v0 v2 x27 h32) q414 q1 y_W_loserOf_ok rfl ⟨Nat.le_of_ble_eq_true rfl, Nat.le_of_ble_eq_true rfl⟩ (Nat.le_of_ble_eq_true rfl) ⟨Nat.le_of_ble_eq_true rfl, Nat.le_of_ble_eq_true rfl⟩ d_W_evict_59 ?_
            refine r_widen (kc2 := 0) (ks2 := 0) (Nat.le_of_ble_eq_true rfl) (Nat.le_of_ble_eq_true rfl) ?_
            refine r_sub [0, 1, 2] (lv' := [(0, tR v0), (2, tR v2), (3, tI v3)]) rfl ?_
            exact b_W_evict_62 X hret hlk hnm n (f_W_evict_10 n i) ih v0 v2 v3 x34 σ33 hf
          · have hf := (if_pos hc29).symm.trans hf
            refine r_aload X d_W_evict_50 3 rfl ?_
            refine r_goto (tgt := 62) X d_W_evict_52 (by decide) ?_
            refine r_widen (kc2 := 0) (ks2 := 0) (Nat.le_of_ble_eq_true rfl) (Nat.le_of_ble_eq_true rfl) ?_
            refine r_sub [0, 1, 2] (lv' := [(0, tR v0), (2, tR v2), (3, tI v3)]) rfl ?_
            exact b_W_evict_62 X hret hlk hnm n (f_W_evict_10 n i) ih v0 v2 v3 x27 σ26 hf
        · have hf := (if_pos hc28).symm.trans hf
          cases hf
          refine r_widen (kc2 := rm_W_evict.cells) (ks2 := rm_W_evict.slots) (Nat.le_of_ble_eq_true rfl) (Nat.le_of_ble_eq_true rfl) ?_
          exact r_vret X hret hlk d_W_evict_45

def f_W_evict (n : Nat) (v0 : Option Nat) (v1 : Option Nat) (σ : Hp) : Option Hp :=
  Option.bind (ld_R σ v0 0 8) fun x1 =>
  Option.bind (is_O σ x1 8) fun x4 =>
  pb (f_Rs_size x1 σ) fun x7 σ6 =>
  f_W_evict_10 n  n v0 v1 x7 σ6
set_option maxRecDepth 100000 in
theorem c_W_evict {l : Launch} {DD : DT} (n : Nat) (v0 : Option Nat) (v1 : Option Nat) {σ0 σz : Hp} (hf : f_W_evict n v0 v1 σ0 = some σz) : CT l DD y_W_evict prog_1_method_30_code 6 none rm_W_evict [tR v0, tR v1] σ0 none σz := by
  refine r_met (by decide) (Nat.le_of_ble_eq_true rfl) ?_
  intro p e s m args below meth c X hret hlk hnm
  unfold f_W_evict at hf
  refine r_aload_n X d_W_evict_0 rfl 1 rfl ?_
  refine r_astore_n (lv' := [(0, tR v0), (2, tR v1)]) X [1, 0] d_W_evict_1 rfl (Nat.le_of_ble_eq_true rfl) rfl ?_
  refine r_aload_n X d_W_evict_2 rfl 0 rfl ?_
  obtain ⟨x1, h2, hf⟩ := obind hf
  refine r_ld_R (ci := 0) (k := 8) X h2 (Nat.le_of_ble_eq_true rfl) (Nat.le_of_ble_eq_true rfl) rfl rfl q229 d_W_evict_3 ?_
  obtain ⟨x4, h3, hf⟩ := obind hf
  obtain ⟨x7, σ6, h5, hf⟩ := pbind hf
  refine r_callV (st := []) X [] (ci := 8) h3 (Nat.le_of_ble_eq_true rfl) q376 q377 q378 (c_Rs_size x1 h5) q379 q8 y_Rs_size_ok rfl ⟨Nat.le_of_ble_eq_true rfl, Nat.le_of_ble_eq_true rfl⟩ (Nat.le_of_ble_eq_true rfl) ⟨Nat.le_of_ble_eq_true rfl, Nat.le_of_ble_eq_true rfl⟩ d_W_evict_6 ?_
  refine r_istore_n (lv' := [(0, tR v0), (2, tR v1), (3, tI x7)]) X [1, 2, 0] d_W_evict_9 rfl (Nat.le_of_ble_eq_true rfl) rfl ?_
  refine r_widen (kc2 := 0) (ks2 := 0) (Nat.le_of_ble_eq_true rfl) (Nat.le_of_ble_eq_true rfl) ?_
  refine r_sub [0, 1, 2] (lv' := [(0, tR v0), (2, tR v1), (3, tI x7)]) rfl ?_
  exact b_W_evict_10 X hret hlk hnm n   n v0 v1 x7 σ6 hf

def f_W_climbIfDue_53 (n : Nat)  (v0 : Option Nat) (σ : Hp) : Option Hp :=
  Option.bind (ld_R σ v0 0 8) fun x34 =>
  Option.bind (is_O σ x34 8) fun x37 =>
  Option.bind (f_Rs_trimShielded n x34 σ) fun σ39 =>
  some σ39
set_option maxRecDepth 100000 in
theorem b_W_climbIfDue_53 {p : Program} {l : Launch} {e : Env} {s : State} {m : MethodId} {args : Array Value} {below : List Frame} {meth : Method} {c : Code} {DD : DT} {σ0 σz : Hp} (X : CX p s m args c prog_1_method_33_code 1 (dm σ0) DD y_W_climbIfDue.cls) (hret : meth.sig.returnType = none) (hlk : meth.locks = false) (hnm : meth.name = y_W_climbIfDue.name) (n : Nat)   (v0 : Option Nat) (σ : Hp) (hf : f_W_climbIfDue_53 n  v0 σ = some σz) : GG p l e rm_W_climbIfDue s m args below meth c 1 (dm σ0) DD (MQ below (Post DD σ0 none σz) args s rm_W_climbIfDue.cells rm_W_climbIfDue.slots (dm σ0)) 0 0 σ 53 [(0, tR v0)] [] := by
  unfold f_W_climbIfDue_53 at hf
  refine r_aload_n X d_W_climbIfDue_53 rfl 0 rfl ?_
  obtain ⟨x34, h35, hf⟩ := obind hf
  refine r_ld_R (ci := 0) (k := 8) X h35 (Nat.le_of_ble_eq_true rfl) (Nat.le_of_ble_eq_true rfl) rfl rfl q229 d_W_climbIfDue_54 ?_
  obtain ⟨x37, h36, hf⟩ := obind hf
  obtain ⟨σ39, h38, hf⟩ := obind hf
  refine r_callV (st := []) X [] (ci := 8) h36 (Nat.le_of_ble_eq_true rfl) q448 q360 q361 (c_Rs_trimShielded n x34 h38) q362 q8 y_Rs_trimShielded_ok rfl ⟨Nat.le_of_ble_eq_true rfl, Nat.le_of_ble_eq_true rfl⟩ (Nat.le_of_ble_eq_true rfl) ⟨Nat.le_of_ble_eq_true rfl, Nat.le_of_ble_eq_true rfl⟩ d_W_climbIfDue_57 ?_
  cases hf
  refine r_widen (kc2 := rm_W_climbIfDue.cells) (ks2 := rm_W_climbIfDue.slots) (Nat.le_of_ble_eq_true rfl) (Nat.le_of_ble_eq_true rfl) ?_
  exact r_vret X hret hlk d_W_climbIfDue_60

def f_W_climbIfDue (n : Nat) (v0 : Option Nat) (σ : Hp) : Option Hp :=
  Option.bind (ld_R σ v0 0 9) fun x1 =>
  Option.bind (is_O σ x1 1) fun x4 =>
  pb (f_Cl_isDue x1 σ) fun x7 σ6 =>
  if x7 = 0 then
  (
    some σ6)
  else
  (
    Option.bind (ld_R σ6 v0 0 8) fun x9 =>
    Option.bind (ld_R σ6 v0 0 9) fun x11 =>
    Option.bind (is_O σ6 x11 1) fun x14 =>
    pb (f_Cl_change x11 σ6) fun x17 σ16 =>
    Option.bind (is_O σ16 x9 8) fun x19 =>
    Option.bind (f_Rs_changeWindow x9 x17 σ16) fun σ21 =>
    Option.bind (ld_R σ21 v0 0 9) fun x22 =>
    Option.bind (ld_I σ21 x22 1 8) fun x24 =>
    if x24 = 0 then
    (
      Option.bind (ld_R σ21 v0 0 8) fun x27 =>
      Option.bind (is_O σ21 x27 8) fun x30 =>
      pb (f_Rs_spillWindow n x27 σ21) fun x33 σ32 =>
      f_W_climbIfDue_53 n  v0 σ32)
    else
    (
      Option.bind (ld_R σ21 v0 0 8) fun x40 =>
      Option.bind (is_O σ21 x40 8) fun x43 =>
      Option.bind (f_Rs_fillWindow n x40 σ21) fun σ45 =>
      f_W_climbIfDue_53 n  v0 σ45))
set_option maxRecDepth 100000 in
theorem c_W_climbIfDue {l : Launch} {DD : DT} (n : Nat) (v0 : Option Nat) {σ0 σz : Hp} (hf : f_W_climbIfDue n v0 σ0 = some σz) : CT l DD y_W_climbIfDue prog_1_method_33_code 1 none rm_W_climbIfDue [tR v0] σ0 none σz := by
  refine r_met (by decide) (Nat.le_of_ble_eq_true rfl) ?_
  intro p e s m args below meth c X hret hlk hnm
  unfold f_W_climbIfDue at hf
  refine r_aload_n X d_W_climbIfDue_0 rfl 0 rfl ?_
  obtain ⟨x1, h2, hf⟩ := obind hf
  refine r_ld_R (ci := 0) (k := 9) X h2 (Nat.le_of_ble_eq_true rfl) (Nat.le_of_ble_eq_true rfl) rfl rfl q230 d_W_climbIfDue_1 ?_
  obtain ⟨x4, h3, hf⟩ := obind hf
  obtain ⟨x7, σ6, h5, hf⟩ := pbind hf
  refine r_callV (st := []) X [] (ci := 1) h3 (Nat.le_of_ble_eq_true rfl) q428 q429 q430 (c_Cl_isDue x1 h5) q431 q10 y_Cl_isDue_ok rfl ⟨Nat.le_of_ble_eq_true rfl, Nat.le_of_ble_eq_true rfl⟩ (Nat.le_of_ble_eq_true rfl) ⟨Nat.le_of_ble_eq_true rfl, Nat.le_of_ble_eq_true rfl⟩ d_W_climbIfDue_4 ?_
  refine r_if_ne (tgt := 11) X d_W_climbIfDue_7 (by decide) (fun hc8 => ?_) (fun hc8 => ?_)
  · have hf := (if_neg hc8).symm.trans hf
    refine r_aload_n X d_W_climbIfDue_11 rfl 0 rfl ?_
    obtain ⟨x9, h10, hf⟩ := obind hf
    refine r_ld_R (ci := 0) (k := 8) X h10 (Nat.le_of_ble_eq_true rfl) (Nat.le_of_ble_eq_true rfl) rfl rfl q229 d_W_climbIfDue_12 ?_
    refine r_aload_n X d_W_climbIfDue_15 rfl 0 rfl ?_
    obtain ⟨x11, h12, hf⟩ := obind hf
    refine r_ld_R (ci := 0) (k := 9) X h12 (Nat.le_of_ble_eq_true rfl) (Nat.le_of_ble_eq_true rfl) rfl rfl q230 d_W_climbIfDue_16 ?_
    obtain ⟨x14, h13, hf⟩ := obind hf
    obtain ⟨x17, σ16, h15, hf⟩ := pbind hf
    refine r_callV (st := [tR x9]) X [] (ci := 1) h13 (Nat.le_of_ble_eq_true rfl) q432 q433 q434 (c_Cl_change x11 h15) q435 q10 y_Cl_change_ok rfl ⟨Nat.le_of_ble_eq_true rfl, Nat.le_of_ble_eq_true rfl⟩ (Nat.le_of_ble_eq_true rfl) ⟨Nat.le_of_ble_eq_true rfl, Nat.le_of_ble_eq_true rfl⟩ d_W_climbIfDue_19 ?_
    obtain ⟨x19, h18, hf⟩ := obind hf
    obtain ⟨σ21, h20, hf⟩ := obind hf
    refine r_callV (st := []) X [tI x17] (ci := 8) h18 (Nat.le_of_ble_eq_true rfl) q439 q440 q441 (c_Rs_changeWindow x9 x17 h20) q442 q8 y_Rs_changeWindow_ok rfl ⟨Nat.le_of_ble_eq_true rfl, Nat.le_of_ble_eq_true rfl⟩ (Nat.le_of_ble_eq_true rfl) ⟨Nat.le_of_ble_eq_true rfl, Nat.le_of_ble_eq_true rfl⟩ d_W_climbIfDue_22 ?_
    refine r_aload_n X d_W_climbIfDue_25 rfl 0 rfl ?_
    obtain ⟨x22, h23, hf⟩ := obind hf
    refine r_ld_R (ci := 0) (k := 9) X h23 (Nat.le_of_ble_eq_true rfl) (Nat.le_of_ble_eq_true rfl) rfl rfl q230 d_W_climbIfDue_26 ?_
    obtain ⟨x24, h25, hf⟩ := obind hf
    refine r_ld_I (ci := 1) (k := 8) X h25 (Nat.le_of_ble_eq_true rfl) (Nat.le_of_ble_eq_true rfl) (Or.inr rfl) rfl q201 d_W_climbIfDue_29 ?_
    refine r_if_eq (tgt := 45) X d_W_climbIfDue_32 (by decide) (fun hc26 => ?_) (fun hc26 => ?_)
    · have hf := (if_pos hc26).symm.trans hf
      refine r_aload_n X d_W_climbIfDue_45 rfl 0 rfl ?_
      obtain ⟨x27, h28, hf⟩ := obind hf
      refine r_ld_R (ci := 0) (k := 8) X h28 (Nat.le_of_ble_eq_true rfl) (Nat.le_of_ble_eq_true rfl) rfl rfl q229 d_W_climbIfDue_46 ?_
      obtain ⟨x30, h29, hf⟩ := obind hf
      obtain ⟨x33, σ32, h31, hf⟩ := pbind hf
      refine r_callV (st := []) X [] (ci := 8) h29 (Nat.le_of_ble_eq_true rfl) q391 q392 q393 (c_Rs_spillWindow n x27 h31) q394 q8 y_Rs_spillWindow_ok rfl ⟨Nat.le_of_ble_eq_true rfl, Nat.le_of_ble_eq_true rfl⟩ (Nat.le_of_ble_eq_true rfl) ⟨Nat.le_of_ble_eq_true rfl, Nat.le_of_ble_eq_true rfl⟩ d_W_climbIfDue_49 ?_
      refine r_pop X d_W_climbIfDue_52 rfl ?_
      refine r_widen (kc2 := 0) (ks2 := 0) (Nat.le_of_ble_eq_true rfl) (Nat.le_of_ble_eq_true rfl) ?_
      refine r_sub [0] (lv' := [(0, tR v0)]) rfl ?_
      exact b_W_climbIfDue_53 X hret hlk hnm n   v0 σ32 hf
    · have hf := (if_neg hc26).symm.trans hf
      refine r_aload_n X d_W_climbIfDue_35 rfl 0 rfl ?_
      obtain ⟨x40, h41, hf⟩ := obind hf
      refine r_ld_R (ci := 0) (k := 8) X h41 (Nat.le_of_ble_eq_true rfl) (Nat.le_of_ble_eq_true rfl) rfl rfl q229 d_W_climbIfDue_36 ?_
      obtain ⟨x43, h42, hf⟩ := obind hf
      obtain ⟨σ45, h44, hf⟩ := obind hf
      refine r_callV (st := []) X [] (ci := 8) h42 (Nat.le_of_ble_eq_true rfl) q444 q445 q446 (c_Rs_fillWindow n x40 h44) q447 q8 y_Rs_fillWindow_ok rfl ⟨Nat.le_of_ble_eq_true rfl, Nat.le_of_ble_eq_true rfl⟩ (Nat.le_of_ble_eq_true rfl) ⟨Nat.le_of_ble_eq_true rfl, Nat.le_of_ble_eq_true rfl⟩ d_W_climbIfDue_39 ?_
      refine r_goto (tgt := 53) X d_W_climbIfDue_42 (by decide) ?_
      refine r_widen (kc2 := 0) (ks2 := 0) (Nat.le_of_ble_eq_true rfl) (Nat.le_of_ble_eq_true rfl) ?_
      refine r_sub [0] (lv' := [(0, tR v0)]) rfl ?_
      exact b_W_climbIfDue_53 X hret hlk hnm n   v0 σ45 hf
  · have hf := (if_pos hc8).symm.trans hf
    cases hf
    refine r_widen (kc2 := rm_W_climbIfDue.cells) (ks2 := rm_W_climbIfDue.slots) (Nat.le_of_ble_eq_true rfl) (Nat.le_of_ble_eq_true rfl) ?_
    exact r_vret X hret hlk d_W_climbIfDue_10

def f_W_tidy (n : Nat) (v0 : Option Nat) (σ : Hp) : Option Hp :=
  Option.bind (ld_R σ v0 0 2) fun x1 =>
  Option.bind (is_O σ v0 0) fun x4 =>
  Option.bind (f_W_takeNotes n v0 x1 σ) fun σ6 =>
  Option.bind (ld_R σ6 v0 0 3) fun x7 =>
  Option.bind (is_O σ6 v0 0) fun x10 =>
  Option.bind (f_W_takeNotes n v0 x7 σ6) fun σ12 =>
  Option.bind (is_O σ12 v0 0) fun x14 =>
  Option.bind (f_W_takeTasks n v0 σ12) fun σ16 =>
  Option.bind (is_O σ16 v0 0) fun x18 =>
  Option.bind (f_W_expire n v0 σ16) fun σ20 =>
  Option.bind (ld_R σ20 v0 0 8) fun x21 =>
  Option.bind (is_O σ20 x21 8) fun x24 =>
  pb (f_Rs_spillWindow n x21 σ20) fun x27 σ26 =>
  Option.bind (is_O σ26 v0 0) fun x29 =>
  Option.bind (f_W_evict n v0 x27 σ26) fun σ31 =>
  Option.bind (is_O σ31 v0 0) fun x33 =>
  Option.bind (f_W_climbIfDue n v0 σ31) fun σ35 =>
  some σ35
set_option maxRecDepth 100000 in
theorem c_W_tidy {l : Launch} {DD : DT} (n : Nat) (v0 : Option Nat) {σ0 σz : Hp} (hf : f_W_tidy n v0 σ0 = some σz) : CT l DD y_W_tidy prog_1_method_26_code 1 none rm_W_tidy [tR v0] σ0 none σz := by
  refine r_met (by decide) (Nat.le_of_ble_eq_true rfl) ?_
  intro p e s m args below meth c X hret hlk hnm
  unfold f_W_tidy at hf
  refine r_aload_n X d_W_tidy_0 rfl 0 rfl ?_
  refine r_aload_n X d_W_tidy_1 rfl 0 rfl ?_
  obtain ⟨x1, h2, hf⟩ := obind hf
  refine r_ld_R (ci := 0) (k := 2) X h2 (Nat.le_of_ble_eq_true rfl) (Nat.le_of_ble_eq_true rfl) rfl rfl q223 d_W_tidy_2 ?_
  obtain ⟨x4, h3, hf⟩ := obind hf
  obtain ⟨σ6, h5, hf⟩ := obind hf
  refine r_callV (st := []) X [tR x1] (ci := 0) h3 (Nat.le_of_ble_eq_true rfl) q321 q323 sl4 (c_W_takeNotes n v0 x1 h5) q324 q1 y_W_takeNotes_ok rfl ⟨Nat.le_of_ble_eq_true rfl, Nat.le_of_ble_eq_true rfl⟩ (Nat.le_of_ble_eq_true rfl) ⟨Nat.le_of_ble_eq_true rfl, Nat.le_of_ble_eq_true rfl⟩ d_W_tidy_5 ?_
  refine r_aload_n X d_W_tidy_8 rfl 0 rfl ?_
  refine r_aload_n X d_W_tidy_9 rfl 0 rfl ?_
  obtain ⟨x7, h8, hf⟩ := obind hf
  refine r_ld_R (ci := 0) (k := 3) X h8 (Nat.le_of_ble_eq_true rfl) (Nat.le_of_ble_eq_true rfl) rfl rfl q224 d_W_tidy_10 ?_
  obtain ⟨x10, h9, hf⟩ := obind hf
  obtain ⟨σ12, h11, hf⟩ := obind hf
  refine r_callV (st := []) X [tR x7] (ci := 0) h9 (Nat.le_of_ble_eq_true rfl) q321 q323 sl4 (c_W_takeNotes n v0 x7 h11) q324 q1 y_W_takeNotes_ok rfl ⟨Nat.le_of_ble_eq_true rfl, Nat.le_of_ble_eq_true rfl⟩ (Nat.le_of_ble_eq_true rfl) ⟨Nat.le_of_ble_eq_true rfl, Nat.le_of_ble_eq_true rfl⟩ d_W_tidy_13 ?_
  refine r_aload_n X d_W_tidy_16 rfl 0 rfl ?_
  obtain ⟨x14, h13, hf⟩ := obind hf
  obtain ⟨σ16, h15, hf⟩ := obind hf
  refine r_callV (st := []) X [] (ci := 0) h13 (Nat.le_of_ble_eq_true rfl) q363 q365 sl5 (c_W_takeTasks n v0 h15) q366 q1 y_W_takeTasks_ok rfl ⟨Nat.le_of_ble_eq_true rfl, Nat.le_of_ble_eq_true rfl⟩ (Nat.le_of_ble_eq_true rfl) ⟨Nat.le_of_ble_eq_true rfl, Nat.le_of_ble_eq_true rfl⟩ d_W_tidy_17 ?_
  refine r_aload_n X d_W_tidy_20 rfl 0 rfl ?_
  obtain ⟨x18, h17, hf⟩ := obind hf
  obtain ⟨σ20, h19, hf⟩ := obind hf
  refine r_callV (st := []) X [] (ci := 0) h17 (Nat.le_of_ble_eq_true rfl) q372 q374 sl6 (c_W_expire n v0 h19) q375 q1 y_W_expire_ok rfl ⟨Nat.le_of_ble_eq_true rfl, Nat.le_of_ble_eq_true rfl⟩ (Nat.le_of_ble_eq_true rfl) ⟨Nat.le_of_ble_eq_true rfl, Nat.le_of_ble_eq_true rfl⟩ d_W_tidy_21 ?_
  refine r_aload_n X d_W_tidy_24 rfl 0 rfl ?_
  refine r_aload_n X d_W_tidy_25 rfl 0 rfl ?_
  obtain ⟨x21, h22, hf⟩ := obind hf
  refine r_ld_R (ci := 0) (k := 8) X h22 (Nat.le_of_ble_eq_true rfl) (Nat.le_of_ble_eq_true rfl) rfl rfl q229 d_W_tidy_26 ?_
  obtain ⟨x24, h23, hf⟩ := obind hf
  obtain ⟨x27, σ26, h25, hf⟩ := pbind hf
  refine r_callV (st := [tR v0]) X [] (ci := 8) h23 (Nat.le_of_ble_eq_true rfl) q391 q392 q393 (c_Rs_spillWindow n x21 h25) q394 q8 y_Rs_spillWindow_ok rfl ⟨Nat.le_of_ble_eq_true rfl, Nat.le_of_ble_eq_true rfl⟩ (Nat.le_of_ble_eq_true rfl) ⟨Nat.le_of_ble_eq_true rfl, Nat.le_of_ble_eq_true rfl⟩ d_W_tidy_29 ?_
  obtain ⟨x29, h28, hf⟩ := obind hf
  obtain ⟨σ31, h30, hf⟩ := obind hf
  refine r_callV (st := []) X [tR x27] (ci := 0) h28 (Nat.le_of_ble_eq_true rfl) q399 q401 sl7 (c_W_evict n v0 x27 h30) q402 q1 y_W_evict_ok rfl ⟨Nat.le_of_ble_eq_true rfl, Nat.le_of_ble_eq_true rfl⟩ (Nat.le_of_ble_eq_true rfl) ⟨Nat.le_of_ble_eq_true rfl, Nat.le_of_ble_eq_true rfl⟩ d_W_tidy_32 ?_
  refine r_aload_n X d_W_tidy_35 rfl 0 rfl ?_
  obtain ⟨x33, h32, hf⟩ := obind hf
  obtain ⟨σ35, h34, hf⟩ := obind hf
  refine r_callV (st := []) X [] (ci := 0) h32 (Nat.le_of_ble_eq_true rfl) q424 q426 sl10 (c_W_climbIfDue n v0 h34) q427 q1 y_W_climbIfDue_ok rfl ⟨Nat.le_of_ble_eq_true rfl, Nat.le_of_ble_eq_true rfl⟩ (Nat.le_of_ble_eq_true rfl) ⟨Nat.le_of_ble_eq_true rfl, Nat.le_of_ble_eq_true rfl⟩ d_W_tidy_36 ?_
  cases hf
  refine r_widen (kc2 := rm_W_tidy.cells) (ks2 := rm_W_tidy.slots) (Nat.le_of_ble_eq_true rfl) (Nat.le_of_ble_eq_true rfl) ?_
  exact r_vret X hret hlk d_W_tidy_39

def f_W_remove_60 (n : Nat)  (v2 : Option Nat) (v3 : Int32) (σ : Hp) : Option (Int32 × Hp) :=
  if v3 = 0 then
  (
    some ((-1), σ))
  else
  (
    Option.bind (ld_I σ v2 3 1) fun x25 =>
    some (x25, σ))
set_option maxRecDepth 100000 in
theorem b_W_remove_60 {p : Program} {l : Launch} {e : Env} {s : State} {m : MethodId} {args : Array Value} {below : List Frame} {meth : Method} {c : Code} {DD : DT} {σ0 σz : Hp} {rz : Int32} (X : CX p s m args c prog_1_method_5_code 4 (dm σ0) DD y_W_remove.cls) (hret : meth.sig.returnType = some .int) (hlk : meth.locks = false) (hnm : meth.name = y_W_remove.name) (n : Nat)   (v2 : Option Nat) (v3 : Int32) (σ : Hp) (hf : f_W_remove_60 n  v2 v3 σ = some (rz, σz)) : GG p l e rm_W_remove s m args below meth c 4 (dm σ0) DD (MQ below (Post DD σ0 (some (tI rz)) σz) args s rm_W_remove.cells rm_W_remove.slots (dm σ0)) 0 0 σ 60 [(2, tR v2), (3, tI v3)] [] := by
  unfold f_W_remove_60 at hf
  refine r_iload_n X d_W_remove_60 rfl 1 rfl ?_
  refine r_if_eq (tgt := 71) X d_W_remove_61 (by decide) (fun hc24 => ?_) (fun hc24 => ?_)
  · have hf := (if_pos hc24).symm.trans hf
    refine r_iconst (v := -1) X d_W_remove_71 (by decide) ?_
    cases hf
    refine r_widen (kc2 := rm_W_remove.cells) (ks2 := rm_W_remove.slots) (Nat.le_of_ble_eq_true rfl) (Nat.le_of_ble_eq_true rfl) ?_
    exact r_iret X hret hlk d_W_remove_72
  · have hf := (if_neg hc24).symm.trans hf
    refine r_aload_n X d_W_remove_64 rfl 0 rfl ?_
    obtain ⟨x25, h26, hf⟩ := obind hf
    refine r_ld_I (ci := 3) (k := 1) X h26 (Nat.le_of_ble_eq_true rfl) (Nat.le_of_ble_eq_true rfl) (Or.inl rfl) rfl q609 d_W_remove_65 ?_
    refine r_goto (tgt := 72) X d_W_remove_68 (by decide) ?_
    cases hf
    refine r_widen (kc2 := rm_W_remove.cells) (ks2 := rm_W_remove.slots) (Nat.le_of_ble_eq_true rfl) (Nat.le_of_ble_eq_true rfl) ?_
    exact r_iret X hret hlk d_W_remove_72

def f_W_remove_41 (n : Nat)  (v0 : Option Nat) (v2 : Option Nat) (v3 : Int32) (w0 : Int32) (w1 : Option Nat) (w2 : Option Nat) (σ : Hp) : Option (Int32 × Hp) :=
  Option.bind (is_O σ w2 0) fun x13 =>
  Option.bind (f_W_dropFromMap w2 w1 w0 σ) fun σ15 =>
  Option.bind (ld_R σ15 v0 0 4) fun x16 =>
  Option.bind (is_O σ15 x16 9) fun x19 =>
  pb (f_Ta_addUntilFull x16 2 v2 σ15) fun x22 σ21 =>
  if x22 = 0 then
  (
    f_W_remove_60 n  v2 v3 σ21)
  else
  (
    Option.bind (is_O σ21 v0 0) fun x28 =>
    Option.bind (f_W_tidy n v0 σ21) fun σ30 =>
    f_W_remove_60 n  v2 v3 σ30)
set_option maxRecDepth 100000 in
theorem b_W_remove_41 {p : Program} {l : Launch} {e : Env} {s : State} {m : MethodId} {args : Array Value} {below : List Frame} {meth : Method} {c : Code} {DD : DT} {σ0 σz : Hp} {rz : Int32} (X : CX p s m args c prog_1_method_5_code 4 (dm σ0) DD y_W_remove.cls) (hret : meth.sig.returnType = some .int) (hlk : meth.locks = false) (hnm : meth.name = y_W_remove.name) (n : Nat)   (v0 : Option Nat) (v2 : Option Nat) (v3 : Int32) (w0 : Int32) (w1 : Option Nat) (w2 : Option Nat) (σ : Hp) (hf : f_W_remove_41 n  v0 v2 v3 w0 w1 w2 σ = some (rz, σz)) : GG p l e rm_W_remove s m args below meth c 4 (dm σ0) DD (MQ below (Post DD σ0 (some (tI rz)) σz) args s rm_W_remove.cells rm_W_remove.slots (dm σ0)) 0 0 σ 41 [(0, tR v0), (2, tR v2), (3, tI v3)] [tI w0, tR w1, tR w2] := by
  unfold f_W_remove_41 at hf
  obtain ⟨x13, h12, hf⟩ := obind hf
  obtain ⟨σ15, h14, hf⟩ := obind hf
  refine r_callV (st := []) X [tR w1, tI w0] (ci := 0) h12 (Nat.le_of_ble_eq_true rfl) q305 q307 sl2 (c_W_dropFromMap w2 w1 w0 h14) q308 q1 y_W_dropFromMap_ok rfl ⟨Nat.le_of_ble_eq_true rfl, Nat.le_of_ble_eq_true rfl⟩ (Nat.le_of_ble_eq_true rfl) ⟨Nat.le_of_ble_eq_true rfl, Nat.le_of_ble_eq_true rfl⟩ d_W_remove_41 ?_
  refine r_aload_n X d_W_remove_44 rfl 0 rfl ?_
  obtain ⟨x16, h17, hf⟩ := obind hf
  refine r_ld_R (ci := 0) (k := 4) X h17 (Nat.le_of_ble_eq_true rfl) (Nat.le_of_ble_eq_true rfl) rfl rfl q225 d_W_remove_45 ?_
  refine r_iconst (v := 2) X d_W_remove_48 (by decide) ?_
  refine r_aload_n X d_W_remove_49 rfl 1 rfl ?_
  obtain ⟨x19, h18, hf⟩ := obind hf
  obtain ⟨x22, σ21, h20, hf⟩ := pbind hf
  refine r_callV (st := []) X [tI 2, tR v2] (ci := 9) h18 (Nat.le_of_ble_eq_true rfl) q313 q314 q315 (c_Ta_addUntilFull x16 2 v2 h20) q316 q3 y_Ta_addUntilFull_ok rfl ⟨Nat.le_of_ble_eq_true rfl, Nat.le_of_ble_eq_true rfl⟩ (Nat.le_of_ble_eq_true rfl) ⟨Nat.le_of_ble_eq_true rfl, Nat.le_of_ble_eq_true rfl⟩ d_W_remove_50 ?_
  refine r_if_eq (tgt := 60) X d_W_remove_53 (by decide) (fun hc23 => ?_) (fun hc23 => ?_)
  · have hf := (if_pos hc23).symm.trans hf
    refine r_widen (kc2 := 0) (ks2 := 0) (Nat.le_of_ble_eq_true rfl) (Nat.le_of_ble_eq_true rfl) ?_
    refine r_sub [1, 2] (lv' := [(2, tR v2), (3, tI v3)]) rfl ?_
    exact b_W_remove_60 X hret hlk hnm n   v2 v3 σ21 hf
  · have hf := (if_neg hc23).symm.trans hf
    refine r_aload_n X d_W_remove_56 rfl 0 rfl ?_
    obtain ⟨x28, h27, hf⟩ := obind hf
    obtain ⟨σ30, h29, hf⟩ := obind hf
    refine r_callV (st := []) X [] (ci := 0) h27 (Nat.le_of_ble_eq_true rfl) q317 q319 sl3 (c_W_tidy n v0 h29) q320 q1 y_W_tidy_ok rfl ⟨Nat.le_of_ble_eq_true rfl, Nat.le_of_ble_eq_true rfl⟩ (Nat.le_of_ble_eq_true rfl) ⟨Nat.le_of_ble_eq_true rfl, Nat.le_of_ble_eq_true rfl⟩ d_W_remove_57 ?_
    refine r_widen (kc2 := 0) (ks2 := 0) (Nat.le_of_ble_eq_true rfl) (Nat.le_of_ble_eq_true rfl) ?_
    refine r_sub [1, 2] (lv' := [(2, tR v2), (3, tI v3)]) rfl ?_
    exact b_W_remove_60 X hret hlk hnm n   v2 v3 σ30 hf

def f_W_remove_17 (n : Nat)  (v0 : Option Nat) (w0 : Option Nat) (σ : Hp) : Option (Int32 × Hp) :=
  if w0 = none then
  (
    some ((-1), σ))
  else
  (
    Option.bind (is_O σ v0 0) fun x7 =>
    pb (f_W_isSeen v0 w0 σ) fun x10 σ9 =>
    if x10 = 0 then
    (
      f_W_remove_41 n  v0 w0 x10 2 w0 v0 σ9)
    else
    (
      f_W_remove_41 n  v0 w0 x10 0 w0 v0 σ9))
set_option maxRecDepth 100000 in
theorem b_W_remove_17 {p : Program} {l : Launch} {e : Env} {s : State} {m : MethodId} {args : Array Value} {below : List Frame} {meth : Method} {c : Code} {DD : DT} {σ0 σz : Hp} {rz : Int32} (X : CX p s m args c prog_1_method_5_code 4 (dm σ0) DD y_W_remove.cls) (hret : meth.sig.returnType = some .int) (hlk : meth.locks = false) (hnm : meth.name = y_W_remove.name) (n : Nat)   (v0 : Option Nat) (w0 : Option Nat) (σ : Hp) (hf : f_W_remove_17 n  v0 w0 σ = some (rz, σz)) : GG p l e rm_W_remove s m args below meth c 4 (dm σ0) DD (MQ below (Post DD σ0 (some (tI rz)) σz) args s rm_W_remove.cells rm_W_remove.slots (dm σ0)) 0 0 σ 17 [(0, tR v0)] [tR w0] := by
  unfold f_W_remove_17 at hf
  refine r_astore_n (lv' := [(0, tR v0), (2, tR w0)]) X [1, 0] d_W_remove_17 rfl (Nat.le_of_ble_eq_true rfl) rfl ?_
  refine r_aload_n X d_W_remove_18 rfl 1 rfl ?_
  refine r_ifnonnull (tgt := 24) X d_W_remove_19 (by decide) (fun hc5 => ?_) (fun hc5 => ?_)
  · have hf := (if_neg hc5).symm.trans hf
    refine r_aload_n X d_W_remove_24 rfl 0 rfl ?_
    refine r_aload_n X d_W_remove_25 rfl 1 rfl ?_
    obtain ⟨x7, h6, hf⟩ := obind hf
    obtain ⟨x10, σ9, h8, hf⟩ := pbind hf
    refine r_callV (st := []) X [tR w0] (ci := 0) h6 (Nat.le_of_ble_eq_true rfl) q297 q299 sl1 (c_W_isSeen v0 w0 h8) q300 q1 y_W_isSeen_ok rfl ⟨Nat.le_of_ble_eq_true rfl, Nat.le_of_ble_eq_true rfl⟩ (Nat.le_of_ble_eq_true rfl) ⟨Nat.le_of_ble_eq_true rfl, Nat.le_of_ble_eq_true rfl⟩ d_W_remove_26 ?_
    refine r_istore_n (lv' := [(0, tR v0), (2, tR w0), (3, tI x10)]) X [1, 2, 0] d_W_remove_29 rfl (Nat.le_of_ble_eq_true rfl) rfl ?_
    refine r_aload_n X d_W_remove_30 rfl 0 rfl ?_
    refine r_aload_n X d_W_remove_31 rfl 1 rfl ?_
    refine r_iload_n X d_W_remove_32 rfl 2 rfl ?_
    refine r_if_eq (tgt := 40) X d_W_remove_33 (by decide) (fun hc11 => ?_) (fun hc11 => ?_)
    · have hf := (if_pos hc11).symm.trans hf
      refine r_iconst (v := 2) X d_W_remove_40 (by decide) ?_
      refine r_widen (kc2 := 0) (ks2 := 0) (Nat.le_of_ble_eq_true rfl) (Nat.le_of_ble_eq_true rfl) ?_
      refine r_sub [0, 1, 2] (lv' := [(0, tR v0), (2, tR w0), (3, tI x10)]) rfl ?_
      exact b_W_remove_41 X hret hlk hnm n   v0 w0 x10 2 w0 v0 σ9 hf
    · have hf := (if_neg hc11).symm.trans hf
      refine r_iconst (v := 0) X d_W_remove_36 (by decide) ?_
      refine r_goto (tgt := 41) X d_W_remove_37 (by decide) ?_
      refine r_widen (kc2 := 0) (ks2 := 0) (Nat.le_of_ble_eq_true rfl) (Nat.le_of_ble_eq_true rfl) ?_
      refine r_sub [0, 1, 2] (lv' := [(0, tR v0), (2, tR w0), (3, tI x10)]) rfl ?_
      exact b_W_remove_41 X hret hlk hnm n   v0 w0 x10 0 w0 v0 σ9 hf
  · have hf := (if_pos hc5).symm.trans hf
    refine r_iconst (v := -1) X d_W_remove_22 (by decide) ?_
    cases hf
    refine r_widen (kc2 := rm_W_remove.cells) (ks2 := rm_W_remove.slots) (Nat.le_of_ble_eq_true rfl) (Nat.le_of_ble_eq_true rfl) ?_
    exact r_iret X hret hlk d_W_remove_23

def f_W_remove (n : Nat) (v0 : Option Nat) (v1 : Int32) (σ : Hp) : Option (Int32 × Hp) :=
  pb (f_W_isKey v1 σ) fun x3 σ2 =>
  if x3 = 0 then
  (
    f_W_remove_17 n  v0 none σ2)
  else
  (
    Option.bind (ld_R σ2 v0 0 0) fun x31 =>
    Option.bind (al_R σ2 3 x31 v1) fun x33 =>
    f_W_remove_17 n  v0 x33 σ2)
set_option maxRecDepth 100000 in
theorem c_W_remove {l : Launch} {DD : DT} (n : Nat) (v0 : Option Nat) (v1 : Int32) {σ0 σz : Hp} {rz : Int32} (hf : f_W_remove n v0 v1 σ0 = some (rz, σz)) : CT l DD y_W_remove prog_1_method_5_code 4 (some .int) rm_W_remove [tR v0, tI v1] σ0 (some (tI rz)) σz := by
  refine r_met (by decide) (Nat.le_of_ble_eq_true rfl) ?_
  intro p e s m args below meth c X hret hlk hnm
  unfold f_W_remove at hf
  refine r_iload_n X d_W_remove_0 rfl 1 rfl ?_
  obtain ⟨x3, σ2, h1, hf⟩ := pbind hf
  refine r_callS (st := []) X [tI v1] q271 q272 (c_W_isKey v1 h1) q273 q1 y_W_isKey_ok rfl ⟨Nat.le_of_ble_eq_true rfl, Nat.le_of_ble_eq_true rfl⟩ (Nat.le_of_ble_eq_true rfl) ⟨Nat.le_of_ble_eq_true rfl, Nat.le_of_ble_eq_true rfl⟩ d_W_remove_1 ?_
  refine r_if_eq (tgt := 16) X d_W_remove_4 (by decide) (fun hc4 => ?_) (fun hc4 => ?_)
  · have hf := (if_pos hc4).symm.trans hf
    refine r_null X d_W_remove_16 ?_
    refine r_widen (kc2 := 0) (ks2 := 0) (Nat.le_of_ble_eq_true rfl) (Nat.le_of_ble_eq_true rfl) ?_
    refine r_sub [0] (lv' := [(0, tR v0)]) rfl ?_
    exact b_W_remove_17 X hret hlk hnm n   v0 none σ2 hf
  · have hf := (if_neg hc4).symm.trans hf
    refine r_aload_n X d_W_remove_7 rfl 0 rfl ?_
    obtain ⟨x31, h32, hf⟩ := obind hf
    refine r_ld_R (ci := 0) (k := 0) X h32 (Nat.le_of_ble_eq_true rfl) (Nat.le_of_ble_eq_true rfl) rfl rfl q221 d_W_remove_8 ?_
    refine r_iload_n X d_W_remove_11 rfl 1 rfl ?_
    obtain ⟨x33, h34, hf⟩ := obind hf
    refine r_al_E X h34 d_W_remove_12 ?_
    refine r_goto (tgt := 17) X d_W_remove_13 (by decide) ?_
    refine r_widen (kc2 := 0) (ks2 := 0) (Nat.le_of_ble_eq_true rfl) (Nat.le_of_ble_eq_true rfl) ?_
    refine r_sub [0] (lv' := [(0, tR v0)]) rfl ?_
    exact b_W_remove_17 X hret hlk hnm n   v0 x33 σ2 hf

def f_W_refresh_17  (v0 : Option Nat) (v1 : Int32) (w0 : Option Nat) (σ : Hp) : Option (Int32 × Hp) :=
  if w0 = none then
  (
    some (0, σ))
  else
  (
    Option.bind (is_O σ v0 0) fun x7 =>
    pb (f_W_isSeen v0 w0 σ) fun x10 σ9 =>
    if x10 = 0 then
    (
      some (0, σ9))
    else
    (
      Option.bind (ld_R σ9 v0 0 1) fun x12 =>
      Option.bind (al_R σ9 4 x12 v1) fun x14 =>
      if x14 = none then
      (
        Option.bind (ld_R σ9 v0 0 1) fun x17 =>
        Option.bind (ld_I (nw_O σ9 10) w0 3 3) fun x19 =>
        Option.bind (f_Wa_init (some (hp_N σ9)) w0 x19 (nw_O σ9 10)) fun σ22 =>
        Option.bind (as_R σ22 4 10 x17 v1 (some (hp_N σ9))) fun σ23 =>
        some (1, σ23))
      else
      (
        some (0, σ9))))
set_option maxRecDepth 100000 in
theorem b_W_refresh_17 {p : Program} {l : Launch} {e : Env} {s : State} {m : MethodId} {args : Array Value} {below : List Frame} {meth : Method} {c : Code} {DD : DT} {σ0 σz : Hp} {rz : Int32} (X : CX p s m args c prog_1_method_7_code 3 (dm σ0) DD y_W_refresh.cls) (hret : meth.sig.returnType = some .boolean) (hlk : meth.locks = false) (hnm : meth.name = y_W_refresh.name)   (v0 : Option Nat) (v1 : Int32) (w0 : Option Nat) (σ : Hp) (hf : f_W_refresh_17  v0 v1 w0 σ = some (rz, σz)) : GG p l e rm_W_refresh s m args below meth c 3 (dm σ0) DD (MQ below (Post DD σ0 (some (tI rz)) σz) args s rm_W_refresh.cells rm_W_refresh.slots (dm σ0)) 0 0 σ 17 [(0, tR v0), (1, tI v1)] [tR w0] := by
  unfold f_W_refresh_17 at hf
  refine r_astore_n (lv' := [(0, tR v0), (1, tI v1), (2, tR w0)]) X [1, 2, 0] d_W_refresh_17 rfl (Nat.le_of_ble_eq_true rfl) rfl ?_
  refine r_aload_n X d_W_refresh_18 rfl 2 rfl ?_
  refine r_ifnull (tgt := 39) X d_W_refresh_19 (by decide) (fun hc5 => ?_) (fun hc5 => ?_)
  · have hf := (if_pos hc5).symm.trans hf
    refine r_iconst (v := 0) X d_W_refresh_39 (by decide) ?_
    cases hf
    refine r_widen (kc2 := rm_W_refresh.cells) (ks2 := rm_W_refresh.slots) (Nat.le_of_ble_eq_true rfl) (Nat.le_of_ble_eq_true rfl) ?_
    exact r_zret X hret hlk (by decide) d_W_refresh_40
  · have hf := (if_neg hc5).symm.trans hf
    refine r_aload_n X d_W_refresh_22 rfl 0 rfl ?_
    refine r_aload_n X d_W_refresh_23 rfl 2 rfl ?_
    obtain ⟨x7, h6, hf⟩ := obind hf
    obtain ⟨x10, σ9, h8, hf⟩ := pbind hf
    refine r_callV (st := []) X [tR w0] (ci := 0) h6 (Nat.le_of_ble_eq_true rfl) q297 q299 sl1 (c_W_isSeen v0 w0 h8) q300 q1 y_W_isSeen_ok rfl ⟨Nat.le_of_ble_eq_true rfl, Nat.le_of_ble_eq_true rfl⟩ (Nat.le_of_ble_eq_true rfl) ⟨Nat.le_of_ble_eq_true rfl, Nat.le_of_ble_eq_true rfl⟩ d_W_refresh_24 ?_
    refine r_if_eq (tgt := 39) X d_W_refresh_27 (by decide) (fun hc11 => ?_) (fun hc11 => ?_)
    · have hf := (if_pos hc11).symm.trans hf
      refine r_iconst (v := 0) X d_W_refresh_39 (by decide) ?_
      cases hf
      refine r_widen (kc2 := rm_W_refresh.cells) (ks2 := rm_W_refresh.slots) (Nat.le_of_ble_eq_true rfl) (Nat.le_of_ble_eq_true rfl) ?_
      exact r_zret X hret hlk (by decide) d_W_refresh_40
    · have hf := (if_neg hc11).symm.trans hf
      refine r_aload_n X d_W_refresh_30 rfl 0 rfl ?_
      obtain ⟨x12, h13, hf⟩ := obind hf
      refine r_ld_R (ci := 0) (k := 1) X h13 (Nat.le_of_ble_eq_true rfl) (Nat.le_of_ble_eq_true rfl) rfl rfl q222 d_W_refresh_31 ?_
      refine r_iload_n X d_W_refresh_34 rfl 1 rfl ?_
      obtain ⟨x14, h15, hf⟩ := obind hf
      refine r_al_W X h15 d_W_refresh_35 ?_
      refine r_ifnull (tgt := 41) X d_W_refresh_36 (by decide) (fun hc16 => ?_) (fun hc16 => ?_)
      · have hf := (if_pos hc16).symm.trans hf
        refine r_aload_n X d_W_refresh_41 rfl 0 rfl ?_
        obtain ⟨x17, h18, hf⟩ := obind hf
        refine r_ld_R (ci := 0) (k := 1) X h18 (Nat.le_of_ble_eq_true rfl) (Nat.le_of_ble_eq_true rfl) rfl rfl q222 d_W_refresh_42 ?_
        refine r_iload_n X d_W_refresh_45 rfl 1 rfl ?_
        refine r_new (ci := 10) X (Nat.le_of_ble_eq_true rfl) q30 q453 q19 (Nat.le_of_ble_eq_true rfl) (Nat.le_of_ble_eq_true rfl) d_W_refresh_46 ?_
        refine r_dup X d_W_refresh_49 rfl ?_
        refine r_aload_n X d_W_refresh_50 rfl 2 rfl ?_
        refine r_aload_n X d_W_refresh_51 rfl 2 rfl ?_
        obtain ⟨x19, h20, hf⟩ := obind hf
        refine r_ld_I (ci := 3) (k := 3) X h20 (Nat.le_of_ble_eq_true rfl) (Nat.le_of_ble_eq_true rfl) (Or.inl rfl) rfl q613 d_W_refresh_52 ?_
        obtain ⟨σ22, h21, hf⟩ := obind hf
        refine r_callI (ret := none) (st := [tR (some (hp_N σ9)), tI v1, tR x17]) X [tR w0, tI x19] rfl q454 q455 rfl (c_Wa_init (some (hp_N σ9)) w0 x19 h21) q456 q19 y_Wa_init_ok rfl ⟨Nat.le_of_ble_eq_true rfl, Nat.le_of_ble_eq_true rfl⟩ (Nat.le_of_ble_eq_true rfl) ⟨Nat.le_of_ble_eq_true rfl, Nat.le_of_ble_eq_true rfl⟩ d_W_refresh_55 ?_
        obtain ⟨σ23, h24, hf⟩ := obind hf
        refine r_as_W X h24 d_W_refresh_58 ?_
        refine r_iconst (v := 1) X d_W_refresh_59 (by decide) ?_
        cases hf
        refine r_widen (kc2 := rm_W_refresh.cells) (ks2 := rm_W_refresh.slots) (Nat.le_of_ble_eq_true rfl) (Nat.le_of_ble_eq_true rfl) ?_
        exact r_zret X hret hlk (by decide) d_W_refresh_60
      · have hf := (if_neg hc16).symm.trans hf
        refine r_iconst (v := 0) X d_W_refresh_39 (by decide) ?_
        cases hf
        refine r_widen (kc2 := rm_W_refresh.cells) (ks2 := rm_W_refresh.slots) (Nat.le_of_ble_eq_true rfl) (Nat.le_of_ble_eq_true rfl) ?_
        exact r_zret X hret hlk (by decide) d_W_refresh_40

def f_W_refresh (v0 : Option Nat) (v1 : Int32) (σ : Hp) : Option (Int32 × Hp) :=
  pb (f_W_isKey v1 σ) fun x3 σ2 =>
  if x3 = 0 then
  (
    f_W_refresh_17  v0 v1 none σ2)
  else
  (
    Option.bind (ld_R σ2 v0 0 0) fun x25 =>
    Option.bind (al_R σ2 3 x25 v1) fun x27 =>
    f_W_refresh_17  v0 v1 x27 σ2)
set_option maxRecDepth 100000 in
theorem c_W_refresh {l : Launch} {DD : DT} (v0 : Option Nat) (v1 : Int32) {σ0 σz : Hp} {rz : Int32} (hf : f_W_refresh v0 v1 σ0 = some (rz, σz)) : CT l DD y_W_refresh prog_1_method_7_code 3 (some .boolean) rm_W_refresh [tR v0, tI v1] σ0 (some (tI rz)) σz := by
  refine r_met (by decide) (Nat.le_of_ble_eq_true rfl) ?_
  intro p e s m args below meth c X hret hlk hnm
  unfold f_W_refresh at hf
  refine r_iload_n X d_W_refresh_0 rfl 1 rfl ?_
  obtain ⟨x3, σ2, h1, hf⟩ := pbind hf
  refine r_callS (st := []) X [tI v1] q271 q272 (c_W_isKey v1 h1) q273 q1 y_W_isKey_ok rfl ⟨Nat.le_of_ble_eq_true rfl, Nat.le_of_ble_eq_true rfl⟩ (Nat.le_of_ble_eq_true rfl) ⟨Nat.le_of_ble_eq_true rfl, Nat.le_of_ble_eq_true rfl⟩ d_W_refresh_1 ?_
  refine r_if_eq (tgt := 16) X d_W_refresh_4 (by decide) (fun hc4 => ?_) (fun hc4 => ?_)
  · have hf := (if_pos hc4).symm.trans hf
    refine r_null X d_W_refresh_16 ?_
    refine r_widen (kc2 := 0) (ks2 := 0) (Nat.le_of_ble_eq_true rfl) (Nat.le_of_ble_eq_true rfl) ?_
    refine r_sub [0, 1] (lv' := [(0, tR v0), (1, tI v1)]) rfl ?_
    exact b_W_refresh_17 X hret hlk hnm   v0 v1 none σ2 hf
  · have hf := (if_neg hc4).symm.trans hf
    refine r_aload_n X d_W_refresh_7 rfl 0 rfl ?_
    obtain ⟨x25, h26, hf⟩ := obind hf
    refine r_ld_R (ci := 0) (k := 0) X h26 (Nat.le_of_ble_eq_true rfl) (Nat.le_of_ble_eq_true rfl) rfl rfl q221 d_W_refresh_8 ?_
    refine r_iload_n X d_W_refresh_11 rfl 1 rfl ?_
    obtain ⟨x27, h28, hf⟩ := obind hf
    refine r_al_E X h28 d_W_refresh_12 ?_
    refine r_goto (tgt := 17) X d_W_refresh_13 (by decide) ?_
    refine r_widen (kc2 := 0) (ks2 := 0) (Nat.le_of_ble_eq_true rfl) (Nat.le_of_ble_eq_true rfl) ?_
    refine r_sub [0, 1] (lv' := [(0, tR v0), (1, tI v1)]) rfl ?_
    exact b_W_refresh_17 X hret hlk hnm   v0 v1 x27 σ2 hf

def f_W_advance (v0 : Option Nat) (v1 : Int32) (σ : Hp) : Option (Int64 × Hp) :=
  if v1 < 0 then
  (
    some ((-1), σ))
  else
  (
    Option.bind (ld_R σ v0 0 6) fun x2 =>
    Option.bind (ld_L σ x2 4 2) fun x4 =>
    if (lg_cmp (x4 + (Int32.toInt64 v1)) 1099511627776) ≤ 0 then
    (
      Option.bind (ld_R σ v0 0 6) fun x7 =>
      Option.bind (ld_L σ x7 4 2) fun x9 =>
      Option.bind (st_L σ x7 4 2 (x9 + (Int32.toInt64 v1))) fun σ11 =>
      Option.bind (ld_R σ11 v0 0 6) fun x13 =>
      Option.bind (ld_L σ11 x13 4 2) fun x15 =>
      some (x15, σ11))
    else
    (
      some ((-1), σ)))
set_option maxRecDepth 100000 in
theorem c_W_advance {l : Launch} {DD : DT} (v0 : Option Nat) (v1 : Int32) {σ0 σz : Hp} {rz : Int64} (hf : f_W_advance v0 v1 σ0 = some (rz, σz)) : CT l DD y_W_advance prog_1_method_10_code 2 (some .long) rm_W_advance [tR v0, tI v1] σ0 (some (tL rz)) σz := by
  refine r_met (by decide) (Nat.le_of_ble_eq_true rfl) ?_
  intro p e s m args below meth c X hret hlk hnm
  unfold f_W_advance at hf
  refine r_iload_n X d_W_advance_0 rfl 1 rfl ?_
  refine r_if_lt (tgt := 21) X d_W_advance_1 (by decide) (fun hc1 => ?_) (fun hc1 => ?_)
  · have hf := (if_pos hc1).symm.trans hf
    refine r_ldc2 X d_W_advance_21 q472 ?_
    cases hf
    refine r_widen (kc2 := rm_W_advance.cells) (ks2 := rm_W_advance.slots) (Nat.le_of_ble_eq_true rfl) (Nat.le_of_ble_eq_true rfl) ?_
    exact r_lret X hret hlk d_W_advance_24
  · have hf := (if_neg hc1).symm.trans hf
    refine r_aload_n X d_W_advance_4 rfl 0 rfl ?_
    obtain ⟨x2, h3, hf⟩ := obind hf
    refine r_ld_R (ci := 0) (k := 6) X h3 (Nat.le_of_ble_eq_true rfl) (Nat.le_of_ble_eq_true rfl) rfl rfl q227 d_W_advance_5 ?_
    obtain ⟨x4, h5, hf⟩ := obind hf
    refine r_ld_L (ci := 4) (k := 2) X h5 (Nat.le_of_ble_eq_true rfl) (Nat.le_of_ble_eq_true rfl) rfl rfl q107 d_W_advance_8 ?_
    refine r_iload_n X d_W_advance_11 rfl 1 rfl ?_
    refine r_i2l X d_W_advance_12 ?_
    refine r_ladd X d_W_advance_13 ?_
    refine r_ldc2 X d_W_advance_14 q471 ?_
    refine r_lcmp X d_W_advance_17 ?_
    refine r_if_le (tgt := 25) X d_W_advance_18 (by decide) (fun hc6 => ?_) (fun hc6 => ?_)
    · have hf := (if_pos hc6).symm.trans hf
      refine r_aload_n X d_W_advance_25 rfl 0 rfl ?_
      obtain ⟨x7, h8, hf⟩ := obind hf
      refine r_ld_R (ci := 0) (k := 6) X h8 (Nat.le_of_ble_eq_true rfl) (Nat.le_of_ble_eq_true rfl) rfl rfl q227 d_W_advance_26 ?_
      refine r_dup X d_W_advance_29 rfl ?_
      obtain ⟨x9, h10, hf⟩ := obind hf
      refine r_ld_L (ci := 4) (k := 2) X h10 (Nat.le_of_ble_eq_true rfl) (Nat.le_of_ble_eq_true rfl) rfl rfl q107 d_W_advance_30 ?_
      refine r_iload_n X d_W_advance_33 rfl 1 rfl ?_
      refine r_i2l X d_W_advance_34 ?_
      refine r_ladd X d_W_advance_35 ?_
      obtain ⟨σ11, h12, hf⟩ := obind hf
      refine r_st_L (ci := 4) (k := 2) X h12 (Nat.le_of_ble_eq_true rfl) (Nat.le_of_ble_eq_true rfl) rfl rfl rfl q107 d_W_advance_36 ?_
      refine r_aload_n X d_W_advance_39 rfl 0 rfl ?_
      obtain ⟨x13, h14, hf⟩ := obind hf
      refine r_ld_R (ci := 0) (k := 6) X h14 (Nat.le_of_ble_eq_true rfl) (Nat.le_of_ble_eq_true rfl) rfl rfl q227 d_W_advance_40 ?_
      obtain ⟨x15, h16, hf⟩ := obind hf
      refine r_ld_L (ci := 4) (k := 2) X h16 (Nat.le_of_ble_eq_true rfl) (Nat.le_of_ble_eq_true rfl) rfl rfl q107 d_W_advance_43 ?_
      cases hf
      refine r_widen (kc2 := rm_W_advance.cells) (ks2 := rm_W_advance.slots) (Nat.le_of_ble_eq_true rfl) (Nat.le_of_ble_eq_true rfl) ?_
      exact r_lret X hret hlk d_W_advance_46
    · have hf := (if_neg hc6).symm.trans hf
      refine r_ldc2 X d_W_advance_21 q472 ?_
      cases hf
      refine r_widen (kc2 := rm_W_advance.cells) (ks2 := rm_W_advance.slots) (Nat.le_of_ble_eq_true rfl) (Nat.le_of_ble_eq_true rfl) ?_
      exact r_lret X hret hlk d_W_advance_24

def f_W_maintain (n : Nat) (v0 : Option Nat) (σ : Hp) : Option (Int32 × Hp) :=
  Option.bind (is_O σ v0 0) fun x2 =>
  Option.bind (f_W_tidy n v0 σ) fun σ4 =>
  Option.bind (ld_R σ4 v0 0 8) fun x5 =>
  Option.bind (is_O σ4 x5 8) fun x8 =>
  pb (f_Rs_weight x5 σ4) fun x11 σ10 =>
  some (x11, σ10)
set_option maxRecDepth 100000 in
theorem c_W_maintain {l : Launch} {DD : DT} (n : Nat) (v0 : Option Nat) {σ0 σz : Hp} {rz : Int32} (hf : f_W_maintain n v0 σ0 = some (rz, σz)) : CT l DD y_W_maintain prog_1_method_11_code 1 (some .int) rm_W_maintain [tR v0] σ0 (some (tI rz)) σz := by
  refine r_met (by decide) (Nat.le_of_ble_eq_true rfl) ?_
  intro p e s m args below meth c X hret hlk hnm
  unfold f_W_maintain at hf
  refine r_aload_n X d_W_maintain_0 rfl 0 rfl ?_
  obtain ⟨x2, h1, hf⟩ := obind hf
  obtain ⟨σ4, h3, hf⟩ := obind hf
  refine r_callV (st := []) X [] (ci := 0) h1 (Nat.le_of_ble_eq_true rfl) q317 q319 sl3 (c_W_tidy n v0 h3) q320 q1 y_W_tidy_ok rfl ⟨Nat.le_of_ble_eq_true rfl, Nat.le_of_ble_eq_true rfl⟩ (Nat.le_of_ble_eq_true rfl) ⟨Nat.le_of_ble_eq_true rfl, Nat.le_of_ble_eq_true rfl⟩ d_W_maintain_1 ?_
  refine r_aload_n X d_W_maintain_4 rfl 0 rfl ?_
  obtain ⟨x5, h6, hf⟩ := obind hf
  refine r_ld_R (ci := 0) (k := 8) X h6 (Nat.le_of_ble_eq_true rfl) (Nat.le_of_ble_eq_true rfl) rfl rfl q229 d_W_maintain_5 ?_
  obtain ⟨x8, h7, hf⟩ := obind hf
  obtain ⟨x11, σ10, h9, hf⟩ := pbind hf
  refine r_callV (st := []) X [] (ci := 8) h7 (Nat.le_of_ble_eq_true rfl) q403 q404 q405 (c_Rs_weight x5 h9) q406 q8 y_Rs_weight_ok rfl ⟨Nat.le_of_ble_eq_true rfl, Nat.le_of_ble_eq_true rfl⟩ (Nat.le_of_ble_eq_true rfl) ⟨Nat.le_of_ble_eq_true rfl, Nat.le_of_ble_eq_true rfl⟩ d_W_maintain_8 ?_
  cases hf
  refine r_widen (kc2 := rm_W_maintain.cells) (ks2 := rm_W_maintain.slots) (Nat.le_of_ble_eq_true rfl) (Nat.le_of_ble_eq_true rfl) ?_
  exact r_iret X hret hlk d_W_maintain_11

def f_W_entriesInMap_43 (n : Nat) (rec4 : Option Nat → Int32 → Int32 → Int32 → Hp → Option (Int32 × Hp)) (v0 : Option Nat) (v1 : Int32) (v2 : Int32) (v3 : Int32) (σ : Hp) : Option (Int32 × Hp) :=
  rec4 v0 v1 v2 (v3 + 1) σ
set_option maxRecDepth 100000 in
theorem b_W_entriesInMap_43 {p : Program} {l : Launch} {e : Env} {s : State} {m : MethodId} {args : Array Value} {below : List Frame} {meth : Method} {c : Code} {DD : DT} {σ0 σz : Hp} {rz : Int32} (X : CX p s m args c prog_1_method_24_code 5 (dm σ0) DD y_W_entriesInMap.cls) (hret : meth.sig.returnType = some .int) (hlk : meth.locks = false) (hnm : meth.name = y_W_entriesInMap.name) (n : Nat) (rec4 : Option Nat → Int32 → Int32 → Int32 → Hp → Option (Int32 × Hp)) (hrec4 : ∀ (v0 : Option Nat) (v1 : Int32) (v2 : Int32) (v3 : Int32) (σ : Hp), rec4 v0 v1 v2 v3 σ = some (rz, σz) → GG p l e rm_W_entriesInMap s m args below meth c 5 (dm σ0) DD (MQ below (Post DD σ0 (some (tI rz)) σz) args s rm_W_entriesInMap.cells rm_W_entriesInMap.slots (dm σ0)) 0 0 σ 4 [(0, tR v0), (1, tI v1), (2, tI v2), (3, tI v3)] []) (v0 : Option Nat) (v1 : Int32) (v2 : Int32) (v3 : Int32) (σ : Hp) (hf : f_W_entriesInMap_43 n rec4 v0 v1 v2 v3 σ = some (rz, σz)) : GG p l e rm_W_entriesInMap s m args below meth c 5 (dm σ0) DD (MQ below (Post DD σ0 (some (tI rz)) σz) args s rm_W_entriesInMap.cells rm_W_entriesInMap.slots (dm σ0)) 0 0 σ 43 [(0, tR v0), (1, tI v1), (2, tI v2), (3, tI v3)] [] := by
  unfold f_W_entriesInMap_43 at hf
  refine r_iinc (lv' := [(0, tR v0), (1, tI v1), (2, tI v2), (3, tI (v3 + 1))]) (j := 3) X [1, 2, 3, 0] d_W_entriesInMap_43 rfl rfl (Nat.le_of_ble_eq_true rfl) rfl ?_
  refine r_goto (tgt := 4) X d_W_entriesInMap_46 (by decide) ?_
  refine r_widen (kc2 := 0) (ks2 := 0) (Nat.le_of_ble_eq_true rfl) (Nat.le_of_ble_eq_true rfl) ?_
  refine r_sub [0, 1, 2, 3] (lv' := [(0, tR v0), (1, tI v1), (2, tI v2), (3, tI (v3 + 1))]) rfl ?_
  exact hrec4 v0 v1 v2 (v3 + 1) σ hf

def f_W_entriesInMap_40 (n : Nat) (rec4 : Option Nat → Int32 → Int32 → Int32 → Hp → Option (Int32 × Hp)) (v0 : Option Nat) (v1 : Int32) (v2 : Int32) (v3 : Int32) (σ : Hp) : Option (Int32 × Hp) :=
  f_W_entriesInMap_43 n rec4 v0 v1 (v2 + 1) v3 σ
set_option maxRecDepth 100000 in
theorem b_W_entriesInMap_40 {p : Program} {l : Launch} {e : Env} {s : State} {m : MethodId} {args : Array Value} {below : List Frame} {meth : Method} {c : Code} {DD : DT} {σ0 σz : Hp} {rz : Int32} (X : CX p s m args c prog_1_method_24_code 5 (dm σ0) DD y_W_entriesInMap.cls) (hret : meth.sig.returnType = some .int) (hlk : meth.locks = false) (hnm : meth.name = y_W_entriesInMap.name) (n : Nat) (rec4 : Option Nat → Int32 → Int32 → Int32 → Hp → Option (Int32 × Hp)) (hrec4 : ∀ (v0 : Option Nat) (v1 : Int32) (v2 : Int32) (v3 : Int32) (σ : Hp), rec4 v0 v1 v2 v3 σ = some (rz, σz) → GG p l e rm_W_entriesInMap s m args below meth c 5 (dm σ0) DD (MQ below (Post DD σ0 (some (tI rz)) σz) args s rm_W_entriesInMap.cells rm_W_entriesInMap.slots (dm σ0)) 0 0 σ 4 [(0, tR v0), (1, tI v1), (2, tI v2), (3, tI v3)] []) (v0 : Option Nat) (v1 : Int32) (v2 : Int32) (v3 : Int32) (σ : Hp) (hf : f_W_entriesInMap_40 n rec4 v0 v1 v2 v3 σ = some (rz, σz)) : GG p l e rm_W_entriesInMap s m args below meth c 5 (dm σ0) DD (MQ below (Post DD σ0 (some (tI rz)) σz) args s rm_W_entriesInMap.cells rm_W_entriesInMap.slots (dm σ0)) 0 0 σ 40 [(0, tR v0), (1, tI v1), (2, tI v2), (3, tI v3)] [] := by
  unfold f_W_entriesInMap_40 at hf
  refine r_iinc (lv' := [(0, tR v0), (1, tI v1), (2, tI (v2 + 1)), (3, tI v3)]) (j := 2) X [1, 2, 0, 3] d_W_entriesInMap_40 rfl rfl (Nat.le_of_ble_eq_true rfl) rfl ?_
  refine r_widen (kc2 := 0) (ks2 := 0) (Nat.le_of_ble_eq_true rfl) (Nat.le_of_ble_eq_true rfl) ?_
  refine r_sub [0, 1, 2, 3] (lv' := [(0, tR v0), (1, tI v1), (2, tI (v2 + 1)), (3, tI v3)]) rfl ?_
  exact b_W_entriesInMap_43 X hret hlk hnm n rec4 hrec4 v0 v1 (v2 + 1) v3 σ hf

def f_W_entriesInMap_4 (n : Nat)  : Nat → Option Nat → Int32 → Int32 → Int32 → Hp → Option (Int32 × Hp)
  | 0, _, _, _, _, _ => none
  | i + 1, v0, v1, v2, v3, σ =>
    if 1000 ≤ v3 then
    (
      some (v2, σ))
    else
    (
      Option.bind (ld_R σ v0 0 0) fun x2 =>
      Option.bind (al_R σ 3 x2 v3) fun x4 =>
      if x4 = none then
      (
        f_W_entriesInMap_43 n (f_W_entriesInMap_4 n i) v0 v1 v2 v3 σ)
      else
      (
        if v1 = 0 then
        (
          f_W_entriesInMap_40 n (f_W_entriesInMap_4 n i) v0 v1 v2 v3 σ)
        else
        (
          Option.bind (ld_R σ v0 0 6) fun x8 =>
          Option.bind (is_O σ x8 4) fun x11 =>
          pb (f_Li_isOver x8 x4 σ) fun x14 σ13 =>
          if x14 = 0 then
          (
            f_W_entriesInMap_43 n (f_W_entriesInMap_4 n i) v0 v1 v2 v3 σ13)
          else
          (
            f_W_entriesInMap_40 n (f_W_entriesInMap_4 n i) v0 v1 v2 v3 σ13))))
set_option maxRecDepth 100000 in
theorem b_W_entriesInMap_4 {p : Program} {l : Launch} {e : Env} {s : State} {m : MethodId} {args : Array Value} {below : List Frame} {meth : Method} {c : Code} {DD : DT} {σ0 σz : Hp} {rz : Int32} (X : CX p s m args c prog_1_method_24_code 5 (dm σ0) DD y_W_entriesInMap.cls) (hret : meth.sig.returnType = some .int) (hlk : meth.locks = false) (hnm : meth.name = y_W_entriesInMap.name) (n : Nat)   : ∀ (i : Nat) (v0 : Option Nat) (v1 : Int32) (v2 : Int32) (v3 : Int32) (σ : Hp) (hf : f_W_entriesInMap_4 n  i v0 v1 v2 v3 σ = some (rz, σz)), GG p l e rm_W_entriesInMap s m args below meth c 5 (dm σ0) DD (MQ below (Post DD σ0 (some (tI rz)) σz) args s rm_W_entriesInMap.cells rm_W_entriesInMap.slots (dm σ0)) 0 0 σ 4 [(0, tR v0), (1, tI v1), (2, tI v2), (3, tI v3)] [] := by
  intro i
  induction i with
  | zero => intro v0 v1 v2 v3 σ hf; cases hf
  | succ i ih =>
    intro v0 v1 v2 v3 σ hf
    simp only [f_W_entriesInMap_4] at hf
    refine r_iload_n X d_W_entriesInMap_4 rfl 3 rfl ?_
    refine r_sipush (v := 1000) X d_W_entriesInMap_5 (by decide) ?_
    refine r_icmp_ge (tgt := 49) X d_W_entriesInMap_8 (by decide) (fun hc1 => ?_) (fun hc1 => ?_)
    · have hf := (if_pos hc1).symm.trans hf
      refine r_iload_n X d_W_entriesInMap_49 rfl 2 rfl ?_
      cases hf
      refine r_widen (kc2 := rm_W_entriesInMap.cells) (ks2 := rm_W_entriesInMap.slots) (Nat.le_of_ble_eq_true rfl) (Nat.le_of_ble_eq_true rfl) ?_
      exact r_iret X hret hlk d_W_entriesInMap_50
    · have hf := (if_neg hc1).symm.trans hf
      refine r_aload_n X d_W_entriesInMap_11 rfl 0 rfl ?_
      obtain ⟨x2, h3, hf⟩ := obind hf
      refine r_ld_R (ci := 0) (k := 0) X h3 (Nat.le_of_ble_eq_true rfl) (Nat.le_of_ble_eq_true rfl) rfl rfl q221 d_W_entriesInMap_12 ?_
      refine r_iload_n X d_W_entriesInMap_15 rfl 3 rfl ?_
      obtain ⟨x4, h5, hf⟩ := obind hf
      refine r_al_E X h5 d_W_entriesInMap_16 ?_
      refine r_astore (lv' := [(0, tR v0), (1, tI v1), (2, tI v2), (3, tI v3), (4, tR x4)]) X [1, 2, 3, 4, 0] d_W_entriesInMap_17 (Nat.le_of_ble_eq_true rfl) rfl ?_
      refine r_aload X d_W_entriesInMap_19 4 rfl ?_
      refine r_ifnull (tgt := 43) X d_W_entriesInMap_21 (by decide) (fun hc6 => ?_) (fun hc6 => ?_)
      · have hf := (if_pos hc6).symm.trans hf
        refine r_widen (kc2 := 0) (ks2 := 0) (Nat.le_of_ble_eq_true rfl) (Nat.le_of_ble_eq_true rfl) ?_
        refine r_sub [0, 1, 2, 3] (lv' := [(0, tR v0), (1, tI v1), (2, tI v2), (3, tI v3)]) rfl ?_
        exact b_W_entriesInMap_43 X hret hlk hnm n (f_W_entriesInMap_4 n i) ih v0 v1 v2 v3 σ hf
      · have hf := (if_neg hc6).symm.trans hf
        refine r_iload_n X d_W_entriesInMap_24 rfl 1 rfl ?_
        refine r_if_eq (tgt := 40) X d_W_entriesInMap_25 (by decide) (fun hc7 => ?_) (fun hc7 => ?_)
        · have hf := (if_pos hc7).symm.trans hf
          refine r_widen (kc2 := 0) (ks2 := 0) (Nat.le_of_ble_eq_true rfl) (Nat.le_of_ble_eq_true rfl) ?_
          refine r_sub [0, 1, 2, 3] (lv' := [(0, tR v0), (1, tI v1), (2, tI v2), (3, tI v3)]) rfl ?_
          exact b_W_entriesInMap_40 X hret hlk hnm n (f_W_entriesInMap_4 n i) ih v0 v1 v2 v3 σ hf
        · have hf := (if_neg hc7).symm.trans hf
          refine r_aload_n X d_W_entriesInMap_28 rfl 0 rfl ?_
          obtain ⟨x8, h9, hf⟩ := obind hf
          refine r_ld_R (ci := 0) (k := 6) X h9 (Nat.le_of_ble_eq_true rfl) (Nat.le_of_ble_eq_true rfl) rfl rfl q227 d_W_entriesInMap_29 ?_
          refine r_aload X d_W_entriesInMap_32 4 rfl ?_
          obtain ⟨x11, h10, hf⟩ := obind hf
          obtain ⟨x14, σ13, h12, hf⟩ := pbind hf
          refine r_callV (st := []) X [tR x4] (ci := 4) h10 (Nat.le_of_ble_eq_true rfl) q278 q279 q280 (c_Li_isOver x8 x4 h12) q281 q6 y_Li_isOver_ok rfl ⟨Nat.le_of_ble_eq_true rfl, Nat.le_of_ble_eq_true rfl⟩ (Nat.le_of_ble_eq_true rfl) ⟨Nat.le_of_ble_eq_true rfl, Nat.le_of_ble_eq_true rfl⟩ d_W_entriesInMap_34 ?_
          refine r_if_eq (tgt := 43) X d_W_entriesInMap_37 (by decide) (fun hc15 => ?_) (fun hc15 => ?_)
          · have hf := (if_pos hc15).symm.trans hf
            refine r_widen (kc2 := 0) (ks2 := 0) (Nat.le_of_ble_eq_true rfl) (Nat.le_of_ble_eq_true rfl) ?_
            refine r_sub [0, 1, 2, 3] (lv' := [(0, tR v0), (1, tI v1), (2, tI v2), (3, tI v3)]) rfl ?_
            exact b_W_entriesInMap_43 X hret hlk hnm n (f_W_entriesInMap_4 n i) ih v0 v1 v2 v3 σ13 hf
          · have hf := (if_neg hc15).symm.trans hf
            refine r_widen (kc2 := 0) (ks2 := 0) (Nat.le_of_ble_eq_true rfl) (Nat.le_of_ble_eq_true rfl) ?_
            refine r_sub [0, 1, 2, 3] (lv' := [(0, tR v0), (1, tI v1), (2, tI v2), (3, tI v3)]) rfl ?_
            exact b_W_entriesInMap_40 X hret hlk hnm n (f_W_entriesInMap_4 n i) ih v0 v1 v2 v3 σ13 hf

def f_W_entriesInMap (n : Nat) (v0 : Option Nat) (v1 : Int32) (σ : Hp) : Option (Int32 × Hp) :=
  f_W_entriesInMap_4 n  n v0 v1 0 0 σ
set_option maxRecDepth 100000 in
theorem c_W_entriesInMap {l : Launch} {DD : DT} (n : Nat) (v0 : Option Nat) (v1 : Int32) {σ0 σz : Hp} {rz : Int32} (hf : f_W_entriesInMap n v0 v1 σ0 = some (rz, σz)) : CT l DD y_W_entriesInMap prog_1_method_24_code 5 (some .int) rm_W_entriesInMap [tR v0, tI v1] σ0 (some (tI rz)) σz := by
  refine r_met (by decide) (Nat.le_of_ble_eq_true rfl) ?_
  intro p e s m args below meth c X hret hlk hnm
  unfold f_W_entriesInMap at hf
  refine r_iconst (v := 0) X d_W_entriesInMap_0 (by decide) ?_
  refine r_istore_n (lv' := [(0, tR v0), (1, tI v1), (2, tI 0)]) X [1, 2, 0] d_W_entriesInMap_1 rfl (Nat.le_of_ble_eq_true rfl) rfl ?_
  refine r_iconst (v := 0) X d_W_entriesInMap_2 (by decide) ?_
  refine r_istore_n (lv' := [(0, tR v0), (1, tI v1), (2, tI 0), (3, tI 0)]) X [1, 2, 3, 0] d_W_entriesInMap_3 rfl (Nat.le_of_ble_eq_true rfl) rfl ?_
  refine r_widen (kc2 := 0) (ks2 := 0) (Nat.le_of_ble_eq_true rfl) (Nat.le_of_ble_eq_true rfl) ?_
  refine r_sub [0, 1, 2, 3] (lv' := [(0, tR v0), (1, tI v1), (2, tI 0), (3, tI 0)]) rfl ?_
  exact b_W_entriesInMap_4 X hret hlk hnm n   n v0 v1 0 0 σ0 hf

def f_W_keysOnTheirWay_23 (n : Nat) (rec4 : Option Nat → Int32 → Int32 → Hp → Option (Int32 × Hp)) (v0 : Option Nat) (v1 : Int32) (v2 : Int32) (σ : Hp) : Option (Int32 × Hp) :=
  rec4 v0 v1 (v2 + 1) σ
set_option maxRecDepth 100000 in
theorem b_W_keysOnTheirWay_23 {p : Program} {l : Launch} {e : Env} {s : State} {m : MethodId} {args : Array Value} {below : List Frame} {meth : Method} {c : Code} {DD : DT} {σ0 σz : Hp} {rz : Int32} (X : CX p s m args c prog_1_method_25_code 3 (dm σ0) DD y_W_keysOnTheirWay.cls) (hret : meth.sig.returnType = some .int) (hlk : meth.locks = false) (hnm : meth.name = y_W_keysOnTheirWay.name) (n : Nat) (rec4 : Option Nat → Int32 → Int32 → Hp → Option (Int32 × Hp)) (hrec4 : ∀ (v0 : Option Nat) (v1 : Int32) (v2 : Int32) (σ : Hp), rec4 v0 v1 v2 σ = some (rz, σz) → GG p l e rm_W_keysOnTheirWay s m args below meth c 3 (dm σ0) DD (MQ below (Post DD σ0 (some (tI rz)) σz) args s rm_W_keysOnTheirWay.cells rm_W_keysOnTheirWay.slots (dm σ0)) 0 0 σ 4 [(0, tR v0), (1, tI v1), (2, tI v2)] []) (v0 : Option Nat) (v1 : Int32) (v2 : Int32) (σ : Hp) (hf : f_W_keysOnTheirWay_23 n rec4 v0 v1 v2 σ = some (rz, σz)) : GG p l e rm_W_keysOnTheirWay s m args below meth c 3 (dm σ0) DD (MQ below (Post DD σ0 (some (tI rz)) σz) args s rm_W_keysOnTheirWay.cells rm_W_keysOnTheirWay.slots (dm σ0)) 0 0 σ 23 [(0, tR v0), (1, tI v1), (2, tI v2)] [] := by
  unfold f_W_keysOnTheirWay_23 at hf
  refine r_iinc (lv' := [(0, tR v0), (1, tI v1), (2, tI (v2 + 1))]) (j := 2) X [1, 2, 0] d_W_keysOnTheirWay_23 rfl rfl (Nat.le_of_ble_eq_true rfl) rfl ?_
  refine r_goto (tgt := 4) X d_W_keysOnTheirWay_26 (by decide) ?_
  refine r_widen (kc2 := 0) (ks2 := 0) (Nat.le_of_ble_eq_true rfl) (Nat.le_of_ble_eq_true rfl) ?_
  refine r_sub [0, 1, 2] (lv' := [(0, tR v0), (1, tI v1), (2, tI (v2 + 1))]) rfl ?_
  exact hrec4 v0 v1 (v2 + 1) σ hf

def f_W_keysOnTheirWay_4 (n : Nat)  : Nat → Option Nat → Int32 → Int32 → Hp → Option (Int32 × Hp)
  | 0, _, _, _, _ => none
  | i + 1, v0, v1, v2, σ =>
    if 1000 ≤ v2 then
    (
      some (v1, σ))
    else
    (
      Option.bind (ld_R σ v0 0 1) fun x2 =>
      Option.bind (al_R σ 4 x2 v2) fun x4 =>
      if x4 = none then
      (
        f_W_keysOnTheirWay_23 n (f_W_keysOnTheirWay_4 n i) v0 v1 v2 σ)
      else
      (
        f_W_keysOnTheirWay_23 n (f_W_keysOnTheirWay_4 n i) v0 (v1 + 1) v2 σ))
set_option maxRecDepth 100000 in
theorem b_W_keysOnTheirWay_4 {p : Program} {l : Launch} {e : Env} {s : State} {m : MethodId} {args : Array Value} {below : List Frame} {meth : Method} {c : Code} {DD : DT} {σ0 σz : Hp} {rz : Int32} (X : CX p s m args c prog_1_method_25_code 3 (dm σ0) DD y_W_keysOnTheirWay.cls) (hret : meth.sig.returnType = some .int) (hlk : meth.locks = false) (hnm : meth.name = y_W_keysOnTheirWay.name) (n : Nat)   : ∀ (i : Nat) (v0 : Option Nat) (v1 : Int32) (v2 : Int32) (σ : Hp) (hf : f_W_keysOnTheirWay_4 n  i v0 v1 v2 σ = some (rz, σz)), GG p l e rm_W_keysOnTheirWay s m args below meth c 3 (dm σ0) DD (MQ below (Post DD σ0 (some (tI rz)) σz) args s rm_W_keysOnTheirWay.cells rm_W_keysOnTheirWay.slots (dm σ0)) 0 0 σ 4 [(0, tR v0), (1, tI v1), (2, tI v2)] [] := by
  intro i
  induction i with
  | zero => intro v0 v1 v2 σ hf; cases hf
  | succ i ih =>
    intro v0 v1 v2 σ hf
    simp only [f_W_keysOnTheirWay_4] at hf
    refine r_iload_n X d_W_keysOnTheirWay_4 rfl 2 rfl ?_
    refine r_sipush (v := 1000) X d_W_keysOnTheirWay_5 (by decide) ?_
    refine r_icmp_ge (tgt := 29) X d_W_keysOnTheirWay_8 (by decide) (fun hc1 => ?_) (fun hc1 => ?_)
    · have hf := (if_pos hc1).symm.trans hf
      refine r_iload_n X d_W_keysOnTheirWay_29 rfl 1 rfl ?_
      cases hf
      refine r_widen (kc2 := rm_W_keysOnTheirWay.cells) (ks2 := rm_W_keysOnTheirWay.slots) (Nat.le_of_ble_eq_true rfl) (Nat.le_of_ble_eq_true rfl) ?_
      exact r_iret X hret hlk d_W_keysOnTheirWay_30
    · have hf := (if_neg hc1).symm.trans hf
      refine r_aload_n X d_W_keysOnTheirWay_11 rfl 0 rfl ?_
      obtain ⟨x2, h3, hf⟩ := obind hf
      refine r_ld_R (ci := 0) (k := 1) X h3 (Nat.le_of_ble_eq_true rfl) (Nat.le_of_ble_eq_true rfl) rfl rfl q222 d_W_keysOnTheirWay_12 ?_
      refine r_iload_n X d_W_keysOnTheirWay_15 rfl 2 rfl ?_
      obtain ⟨x4, h5, hf⟩ := obind hf
      refine r_al_W X h5 d_W_keysOnTheirWay_16 ?_
      refine r_ifnull (tgt := 23) X d_W_keysOnTheirWay_17 (by decide) (fun hc6 => ?_) (fun hc6 => ?_)
      · have hf := (if_pos hc6).symm.trans hf
        refine r_widen (kc2 := 0) (ks2 := 0) (Nat.le_of_ble_eq_true rfl) (Nat.le_of_ble_eq_true rfl) ?_
        refine r_sub [0, 1, 2] (lv' := [(0, tR v0), (1, tI v1), (2, tI v2)]) rfl ?_
        exact b_W_keysOnTheirWay_23 X hret hlk hnm n (f_W_keysOnTheirWay_4 n i) ih v0 v1 v2 σ hf
      · have hf := (if_neg hc6).symm.trans hf
        refine r_iinc (lv' := [(0, tR v0), (1, tI (v1 + 1)), (2, tI v2)]) (j := 1) X [1, 0, 2] d_W_keysOnTheirWay_20 rfl rfl (Nat.le_of_ble_eq_true rfl) rfl ?_
        refine r_widen (kc2 := 0) (ks2 := 0) (Nat.le_of_ble_eq_true rfl) (Nat.le_of_ble_eq_true rfl) ?_
        refine r_sub [0, 1, 2] (lv' := [(0, tR v0), (1, tI (v1 + 1)), (2, tI v2)]) rfl ?_
        exact b_W_keysOnTheirWay_23 X hret hlk hnm n (f_W_keysOnTheirWay_4 n i) ih v0 (v1 + 1) v2 σ hf

def f_W_keysOnTheirWay (n : Nat) (v0 : Option Nat) (σ : Hp) : Option (Int32 × Hp) :=
  f_W_keysOnTheirWay_4 n  n v0 0 0 σ
set_option maxRecDepth 100000 in
theorem c_W_keysOnTheirWay {l : Launch} {DD : DT} (n : Nat) (v0 : Option Nat) {σ0 σz : Hp} {rz : Int32} (hf : f_W_keysOnTheirWay n v0 σ0 = some (rz, σz)) : CT l DD y_W_keysOnTheirWay prog_1_method_25_code 3 (some .int) rm_W_keysOnTheirWay [tR v0] σ0 (some (tI rz)) σz := by
  refine r_met (by decide) (Nat.le_of_ble_eq_true rfl) ?_
  intro p e s m args below meth c X hret hlk hnm
  unfold f_W_keysOnTheirWay at hf
  refine r_iconst (v := 0) X d_W_keysOnTheirWay_0 (by decide) ?_
  refine r_istore_n (lv' := [(0, tR v0), (1, tI 0)]) X [1, 0] d_W_keysOnTheirWay_1 rfl (Nat.le_of_ble_eq_true rfl) rfl ?_
  refine r_iconst (v := 0) X d_W_keysOnTheirWay_2 (by decide) ?_
  refine r_istore_n (lv' := [(0, tR v0), (1, tI 0), (2, tI 0)]) X [1, 2, 0] d_W_keysOnTheirWay_3 rfl (Nat.le_of_ble_eq_true rfl) rfl ?_
  refine r_widen (kc2 := 0) (ks2 := 0) (Nat.le_of_ble_eq_true rfl) (Nat.le_of_ble_eq_true rfl) ?_
  refine r_sub [0, 1, 2] (lv' := [(0, tR v0), (1, tI 0), (2, tI 0)]) rfl ?_
  exact b_W_keysOnTheirWay_4 X hret hlk hnm n   n v0 0 0 σ0 hf

def f_W_count (n : Nat) (v0 : Option Nat) (v1 : Int32) (σ : Hp) : Option (Int32 × Hp) :=
  if v1 = 0 then
  (
    Option.bind (is_O σ v0 0) fun x3 =>
    pb (f_W_entriesInMap n v0 0 σ) fun x6 σ5 =>
    some (x6, σ5))
  else
  if v1 = 1 then
  (
    Option.bind (is_O σ v0 0) fun x9 =>
    pb (f_W_entriesInMap n v0 1 σ) fun x12 σ11 =>
    some (x12, σ11))
  else
  if v1 = 2 then
  (
    Option.bind (ld_R σ v0 0 8) fun x14 =>
    Option.bind (is_O σ x14 8) fun x17 =>
    pb (f_Rs_weight x14 σ) fun x20 σ19 =>
    some (x20, σ19))
  else
  if v1 = 3 then
  (
    Option.bind (ld_R σ v0 0 8) fun x22 =>
    Option.bind (ld_R σ x22 8 1) fun x24 =>
    Option.bind (ld_I σ x24 7 2) fun x26 =>
    some (x26, σ))
  else
  if v1 = 4 then
  (
    Option.bind (ld_R σ v0 0 8) fun x29 =>
    Option.bind (ld_R σ x29 8 2) fun x31 =>
    Option.bind (ld_I σ x31 7 2) fun x33 =>
    some (x33, σ))
  else
  if v1 = 5 then
  (
    Option.bind (ld_R σ v0 0 8) fun x36 =>
    Option.bind (ld_R σ x36 8 3) fun x38 =>
    Option.bind (ld_I σ x38 7 2) fun x40 =>
    some (x40, σ))
  else
  if v1 = 6 then
  (
    Option.bind (ld_R σ v0 0 8) fun x43 =>
    Option.bind (ld_I σ x43 8 4) fun x45 =>
    some (x45, σ))
  else
  if v1 = 7 then
  (
    Option.bind (ld_R σ v0 0 9) fun x48 =>
    Option.bind (ld_I σ x48 1 2) fun x50 =>
    some (x50, σ))
  else
  if v1 = 8 then
  (
    Option.bind (ld_R σ v0 0 9) fun x53 =>
    Option.bind (ld_I σ x53 1 3) fun x55 =>
    some (x55, σ))
  else
  if v1 = 9 then
  (
    Option.bind (ld_I σ v0 0 11) fun x58 =>
    some (x58, σ))
  else
  if v1 = 10 then
  (
    Option.bind (ld_I σ v0 0 12) fun x61 =>
    some (x61, σ))
  else
  if v1 = 11 then
  (
    Option.bind (ld_I σ v0 0 13) fun x64 =>
    some (x64, σ))
  else
  if v1 = 12 then
  (
    Option.bind (ld_I σ v0 0 14) fun x67 =>
    some (x67, σ))
  else
  if v1 = 13 then
  (
    Option.bind (ld_R σ v0 0 2) fun x70 =>
    Option.bind (ld_I σ x70 6 1) fun x72 =>
    Option.bind (ld_R σ v0 0 3) fun x74 =>
    Option.bind (ld_I σ x74 6 1) fun x76 =>
    some (x72 + x76, σ))
  else
  if v1 = 14 then
  (
    Option.bind (ld_R σ v0 0 4) fun x79 =>
    Option.bind (ld_I σ x79 9 2) fun x81 =>
    some (x81, σ))
  else
  if v1 = 15 then
  (
    Option.bind (ld_R σ v0 0 7) fun x84 =>
    Option.bind (ld_I σ x84 2 2) fun x86 =>
    some (x86, σ))
  else
  if v1 = 16 then
  (
    Option.bind (ld_R σ v0 0 2) fun x89 =>
    Option.bind (ld_I σ x89 6 2) fun x91 =>
    Option.bind (ld_R σ v0 0 3) fun x93 =>
    Option.bind (ld_I σ x93 6 2) fun x95 =>
    some (x91 + x95, σ))
  else
  if v1 = 17 then
  (
    Option.bind (is_O σ v0 0) fun x99 =>
    pb (f_W_keysOnTheirWay n v0 σ) fun x102 σ101 =>
    some (x102, σ101))
  else
  (
    some ((-1), σ))
set_option maxRecDepth 100000 in
theorem c_W_count {l : Launch} {DD : DT} (n : Nat) (v0 : Option Nat) (v1 : Int32) {σ0 σz : Hp} {rz : Int32} (hf : f_W_count n v0 v1 σ0 = some (rz, σz)) : CT l DD y_W_count prog_1_method_12_code 2 (some .int) rm_W_count [tR v0, tI v1] σ0 (some (tI rz)) σz := by
  refine r_met (by decide) (Nat.le_of_ble_eq_true rfl) ?_
  intro p e s m args below meth c X hret hlk hnm
  unfold f_W_count at hf
  refine r_iload_n X d_W_count_0 rfl 1 rfl ?_
  by_cases hc1 : v1 = 0
  · have hf := (if_pos hc1).symm.trans hf
    refine r_tableIn (tgt := 88) (off := 87) X d_W_count_1 (by rw [hc1]; decide) (by rw [hc1]; decide) (by rw [hc1]; decide) (by decide) ?_
    refine r_aload_n X d_W_count_88 rfl 0 rfl ?_
    refine r_iconst (v := 0) X d_W_count_89 (by decide) ?_
    obtain ⟨x3, h2, hf⟩ := obind hf
    obtain ⟨x6, σ5, h4, hf⟩ := pbind hf
    refine r_callV (st := []) X [tI 0] (ci := 0) h2 (Nat.le_of_ble_eq_true rfl) q481 q483 sl11 (c_W_entriesInMap n v0 0 h4) q484 q1 y_W_entriesInMap_ok rfl ⟨Nat.le_of_ble_eq_true rfl, Nat.le_of_ble_eq_true rfl⟩ (Nat.le_of_ble_eq_true rfl) ⟨Nat.le_of_ble_eq_true rfl, Nat.le_of_ble_eq_true rfl⟩ d_W_count_90 ?_
    cases hf
    refine r_widen (kc2 := rm_W_count.cells) (ks2 := rm_W_count.slots) (Nat.le_of_ble_eq_true rfl) (Nat.le_of_ble_eq_true rfl) ?_
    exact r_iret X hret hlk d_W_count_93
  have hf := (if_neg hc1).symm.trans hf
  by_cases hc7 : v1 = 1
  · have hf := (if_pos hc7).symm.trans hf
    refine r_tableIn (tgt := 94) (off := 93) X d_W_count_1 (by rw [hc7]; decide) (by rw [hc7]; decide) (by rw [hc7]; decide) (by decide) ?_
    refine r_aload_n X d_W_count_94 rfl 0 rfl ?_
    refine r_iconst (v := 1) X d_W_count_95 (by decide) ?_
    obtain ⟨x9, h8, hf⟩ := obind hf
    obtain ⟨x12, σ11, h10, hf⟩ := pbind hf
    refine r_callV (st := []) X [tI 1] (ci := 0) h8 (Nat.le_of_ble_eq_true rfl) q481 q483 sl11 (c_W_entriesInMap n v0 1 h10) q484 q1 y_W_entriesInMap_ok rfl ⟨Nat.le_of_ble_eq_true rfl, Nat.le_of_ble_eq_true rfl⟩ (Nat.le_of_ble_eq_true rfl) ⟨Nat.le_of_ble_eq_true rfl, Nat.le_of_ble_eq_true rfl⟩ d_W_count_96 ?_
    cases hf
    refine r_widen (kc2 := rm_W_count.cells) (ks2 := rm_W_count.slots) (Nat.le_of_ble_eq_true rfl) (Nat.le_of_ble_eq_true rfl) ?_
    exact r_iret X hret hlk d_W_count_99
  have hf := (if_neg hc7).symm.trans hf
  by_cases hc13 : v1 = 2
  · have hf := (if_pos hc13).symm.trans hf
    refine r_tableIn (tgt := 100) (off := 99) X d_W_count_1 (by rw [hc13]; decide) (by rw [hc13]; decide) (by rw [hc13]; decide) (by decide) ?_
    refine r_aload_n X d_W_count_100 rfl 0 rfl ?_
    obtain ⟨x14, h15, hf⟩ := obind hf
    refine r_ld_R (ci := 0) (k := 8) X h15 (Nat.le_of_ble_eq_true rfl) (Nat.le_of_ble_eq_true rfl) rfl rfl q229 d_W_count_101 ?_
    obtain ⟨x17, h16, hf⟩ := obind hf
    obtain ⟨x20, σ19, h18, hf⟩ := pbind hf
    refine r_callV (st := []) X [] (ci := 8) h16 (Nat.le_of_ble_eq_true rfl) q403 q404 q405 (c_Rs_weight x14 h18) q406 q8 y_Rs_weight_ok rfl ⟨Nat.le_of_ble_eq_true rfl, Nat.le_of_ble_eq_true rfl⟩ (Nat.le_of_ble_eq_true rfl) ⟨Nat.le_of_ble_eq_true rfl, Nat.le_of_ble_eq_true rfl⟩ d_W_count_104 ?_
    cases hf
    refine r_widen (kc2 := rm_W_count.cells) (ks2 := rm_W_count.slots) (Nat.le_of_ble_eq_true rfl) (Nat.le_of_ble_eq_true rfl) ?_
    exact r_iret X hret hlk d_W_count_107
  have hf := (if_neg hc13).symm.trans hf
  by_cases hc21 : v1 = 3
  · have hf := (if_pos hc21).symm.trans hf
    refine r_tableIn (tgt := 108) (off := 107) X d_W_count_1 (by rw [hc21]; decide) (by rw [hc21]; decide) (by rw [hc21]; decide) (by decide) ?_
    refine r_aload_n X d_W_count_108 rfl 0 rfl ?_
    obtain ⟨x22, h23, hf⟩ := obind hf
    refine r_ld_R (ci := 0) (k := 8) X h23 (Nat.le_of_ble_eq_true rfl) (Nat.le_of_ble_eq_true rfl) rfl rfl q229 d_W_count_109 ?_
    obtain ⟨x24, h25, hf⟩ := obind hf
    refine r_ld_R (ci := 8) (k := 1) X h25 (Nat.le_of_ble_eq_true rfl) (Nat.le_of_ble_eq_true rfl) rfl rfl q165 d_W_count_112 ?_
    obtain ⟨x26, h27, hf⟩ := obind hf
    refine r_ld_I (ci := 7) (k := 2) X h27 (Nat.le_of_ble_eq_true rfl) (Nat.le_of_ble_eq_true rfl) (Or.inl rfl) rfl q149 d_W_count_115 ?_
    cases hf
    refine r_widen (kc2 := rm_W_count.cells) (ks2 := rm_W_count.slots) (Nat.le_of_ble_eq_true rfl) (Nat.le_of_ble_eq_true rfl) ?_
    exact r_iret X hret hlk d_W_count_118
  have hf := (if_neg hc21).symm.trans hf
  by_cases hc28 : v1 = 4
  · have hf := (if_pos hc28).symm.trans hf
    refine r_tableIn (tgt := 119) (off := 118) X d_W_count_1 (by rw [hc28]; decide) (by rw [hc28]; decide) (by rw [hc28]; decide) (by decide) ?_
    refine r_aload_n X d_W_count_119 rfl 0 rfl ?_
    obtain ⟨x29, h30, hf⟩ := obind hf
    refine r_ld_R (ci := 0) (k := 8) X h30 (Nat.le_of_ble_eq_true rfl) (Nat.le_of_ble_eq_true rfl) rfl rfl q229 d_W_count_120 ?_
    obtain ⟨x31, h32, hf⟩ := obind hf
    refine r_ld_R (ci := 8) (k := 2) X h32 (Nat.le_of_ble_eq_true rfl) (Nat.le_of_ble_eq_true rfl) rfl rfl q167 d_W_count_123 ?_
    obtain ⟨x33, h34, hf⟩ := obind hf
    refine r_ld_I (ci := 7) (k := 2) X h34 (Nat.le_of_ble_eq_true rfl) (Nat.le_of_ble_eq_true rfl) (Or.inl rfl) rfl q149 d_W_count_126 ?_
    cases hf
    refine r_widen (kc2 := rm_W_count.cells) (ks2 := rm_W_count.slots) (Nat.le_of_ble_eq_true rfl) (Nat.le_of_ble_eq_true rfl) ?_
    exact r_iret X hret hlk d_W_count_129
  have hf := (if_neg hc28).symm.trans hf
  by_cases hc35 : v1 = 5
  · have hf := (if_pos hc35).symm.trans hf
    refine r_tableIn (tgt := 130) (off := 129) X d_W_count_1 (by rw [hc35]; decide) (by rw [hc35]; decide) (by rw [hc35]; decide) (by decide) ?_
    refine r_aload_n X d_W_count_130 rfl 0 rfl ?_
    obtain ⟨x36, h37, hf⟩ := obind hf
    refine r_ld_R (ci := 0) (k := 8) X h37 (Nat.le_of_ble_eq_true rfl) (Nat.le_of_ble_eq_true rfl) rfl rfl q229 d_W_count_131 ?_
    obtain ⟨x38, h39, hf⟩ := obind hf
    refine r_ld_R (ci := 8) (k := 3) X h39 (Nat.le_of_ble_eq_true rfl) (Nat.le_of_ble_eq_true rfl) rfl rfl q169 d_W_count_134 ?_
    obtain ⟨x40, h41, hf⟩ := obind hf
    refine r_ld_I (ci := 7) (k := 2) X h41 (Nat.le_of_ble_eq_true rfl) (Nat.le_of_ble_eq_true rfl) (Or.inl rfl) rfl q149 d_W_count_137 ?_
    cases hf
    refine r_widen (kc2 := rm_W_count.cells) (ks2 := rm_W_count.slots) (Nat.le_of_ble_eq_true rfl) (Nat.le_of_ble_eq_true rfl) ?_
    exact r_iret X hret hlk d_W_count_140
  have hf := (if_neg hc35).symm.trans hf
  by_cases hc42 : v1 = 6
  · have hf := (if_pos hc42).symm.trans hf
    refine r_tableIn (tgt := 141) (off := 140) X d_W_count_1 (by rw [hc42]; decide) (by rw [hc42]; decide) (by rw [hc42]; decide) (by decide) ?_
    refine r_aload_n X d_W_count_141 rfl 0 rfl ?_
    obtain ⟨x43, h44, hf⟩ := obind hf
    refine r_ld_R (ci := 0) (k := 8) X h44 (Nat.le_of_ble_eq_true rfl) (Nat.le_of_ble_eq_true rfl) rfl rfl q229 d_W_count_142 ?_
    obtain ⟨x45, h46, hf⟩ := obind hf
    refine r_ld_I (ci := 8) (k := 4) X h46 (Nat.le_of_ble_eq_true rfl) (Nat.le_of_ble_eq_true rfl) (Or.inl rfl) rfl q171 d_W_count_145 ?_
    cases hf
    refine r_widen (kc2 := rm_W_count.cells) (ks2 := rm_W_count.slots) (Nat.le_of_ble_eq_true rfl) (Nat.le_of_ble_eq_true rfl) ?_
    exact r_iret X hret hlk d_W_count_148
  have hf := (if_neg hc42).symm.trans hf
  by_cases hc47 : v1 = 7
  · have hf := (if_pos hc47).symm.trans hf
    refine r_tableIn (tgt := 149) (off := 148) X d_W_count_1 (by rw [hc47]; decide) (by rw [hc47]; decide) (by rw [hc47]; decide) (by decide) ?_
    refine r_aload_n X d_W_count_149 rfl 0 rfl ?_
    obtain ⟨x48, h49, hf⟩ := obind hf
    refine r_ld_R (ci := 0) (k := 9) X h49 (Nat.le_of_ble_eq_true rfl) (Nat.le_of_ble_eq_true rfl) rfl rfl q230 d_W_count_150 ?_
    obtain ⟨x50, h51, hf⟩ := obind hf
    refine r_ld_I (ci := 1) (k := 2) X h51 (Nat.le_of_ble_eq_true rfl) (Nat.le_of_ble_eq_true rfl) (Or.inl rfl) rfl q193 d_W_count_153 ?_
    cases hf
    refine r_widen (kc2 := rm_W_count.cells) (ks2 := rm_W_count.slots) (Nat.le_of_ble_eq_true rfl) (Nat.le_of_ble_eq_true rfl) ?_
    exact r_iret X hret hlk d_W_count_156
  have hf := (if_neg hc47).symm.trans hf
  by_cases hc52 : v1 = 8
  · have hf := (if_pos hc52).symm.trans hf
    refine r_tableIn (tgt := 157) (off := 156) X d_W_count_1 (by rw [hc52]; decide) (by rw [hc52]; decide) (by rw [hc52]; decide) (by decide) ?_
    refine r_aload_n X d_W_count_157 rfl 0 rfl ?_
    obtain ⟨x53, h54, hf⟩ := obind hf
    refine r_ld_R (ci := 0) (k := 9) X h54 (Nat.le_of_ble_eq_true rfl) (Nat.le_of_ble_eq_true rfl) rfl rfl q230 d_W_count_158 ?_
    obtain ⟨x55, h56, hf⟩ := obind hf
    refine r_ld_I (ci := 1) (k := 3) X h56 (Nat.le_of_ble_eq_true rfl) (Nat.le_of_ble_eq_true rfl) (Or.inl rfl) rfl q195 d_W_count_161 ?_
    cases hf
    refine r_widen (kc2 := rm_W_count.cells) (ks2 := rm_W_count.slots) (Nat.le_of_ble_eq_true rfl) (Nat.le_of_ble_eq_true rfl) ?_
    exact r_iret X hret hlk d_W_count_164
  have hf := (if_neg hc52).symm.trans hf
  by_cases hc57 : v1 = 9
  · have hf := (if_pos hc57).symm.trans hf
    refine r_tableIn (tgt := 165) (off := 164) X d_W_count_1 (by rw [hc57]; decide) (by rw [hc57]; decide) (by rw [hc57]; decide) (by decide) ?_
    refine r_aload_n X d_W_count_165 rfl 0 rfl ?_
    obtain ⟨x58, h59, hf⟩ := obind hf
    refine r_ld_I (ci := 0) (k := 11) X h59 (Nat.le_of_ble_eq_true rfl) (Nat.le_of_ble_eq_true rfl) (Or.inl rfl) rfl q232 d_W_count_166 ?_
    cases hf
    refine r_widen (kc2 := rm_W_count.cells) (ks2 := rm_W_count.slots) (Nat.le_of_ble_eq_true rfl) (Nat.le_of_ble_eq_true rfl) ?_
    exact r_iret X hret hlk d_W_count_169
  have hf := (if_neg hc57).symm.trans hf
  by_cases hc60 : v1 = 10
  · have hf := (if_pos hc60).symm.trans hf
    refine r_tableIn (tgt := 170) (off := 169) X d_W_count_1 (by rw [hc60]; decide) (by rw [hc60]; decide) (by rw [hc60]; decide) (by decide) ?_
    refine r_aload_n X d_W_count_170 rfl 0 rfl ?_
    obtain ⟨x61, h62, hf⟩ := obind hf
    refine r_ld_I (ci := 0) (k := 12) X h62 (Nat.le_of_ble_eq_true rfl) (Nat.le_of_ble_eq_true rfl) (Or.inl rfl) rfl q233 d_W_count_171 ?_
    cases hf
    refine r_widen (kc2 := rm_W_count.cells) (ks2 := rm_W_count.slots) (Nat.le_of_ble_eq_true rfl) (Nat.le_of_ble_eq_true rfl) ?_
    exact r_iret X hret hlk d_W_count_174
  have hf := (if_neg hc60).symm.trans hf
  by_cases hc63 : v1 = 11
  · have hf := (if_pos hc63).symm.trans hf
    refine r_tableIn (tgt := 175) (off := 174) X d_W_count_1 (by rw [hc63]; decide) (by rw [hc63]; decide) (by rw [hc63]; decide) (by decide) ?_
    refine r_aload_n X d_W_count_175 rfl 0 rfl ?_
    obtain ⟨x64, h65, hf⟩ := obind hf
    refine r_ld_I (ci := 0) (k := 13) X h65 (Nat.le_of_ble_eq_true rfl) (Nat.le_of_ble_eq_true rfl) (Or.inl rfl) rfl q234 d_W_count_176 ?_
    cases hf
    refine r_widen (kc2 := rm_W_count.cells) (ks2 := rm_W_count.slots) (Nat.le_of_ble_eq_true rfl) (Nat.le_of_ble_eq_true rfl) ?_
    exact r_iret X hret hlk d_W_count_179
  have hf := (if_neg hc63).symm.trans hf
  by_cases hc66 : v1 = 12
  · have hf := (if_pos hc66).symm.trans hf
    refine r_tableIn (tgt := 180) (off := 179) X d_W_count_1 (by rw [hc66]; decide) (by rw [hc66]; decide) (by rw [hc66]; decide) (by decide) ?_
    refine r_aload_n X d_W_count_180 rfl 0 rfl ?_
    obtain ⟨x67, h68, hf⟩ := obind hf
    refine r_ld_I (ci := 0) (k := 14) X h68 (Nat.le_of_ble_eq_true rfl) (Nat.le_of_ble_eq_true rfl) (Or.inl rfl) rfl q235 d_W_count_181 ?_
    cases hf
    refine r_widen (kc2 := rm_W_count.cells) (ks2 := rm_W_count.slots) (Nat.le_of_ble_eq_true rfl) (Nat.le_of_ble_eq_true rfl) ?_
    exact r_iret X hret hlk d_W_count_184
  have hf := (if_neg hc66).symm.trans hf
  by_cases hc69 : v1 = 13
  · have hf := (if_pos hc69).symm.trans hf
    refine r_tableIn (tgt := 185) (off := 184) X d_W_count_1 (by rw [hc69]; decide) (by rw [hc69]; decide) (by rw [hc69]; decide) (by decide) ?_
    refine r_aload_n X d_W_count_185 rfl 0 rfl ?_
    obtain ⟨x70, h71, hf⟩ := obind hf
    refine r_ld_R (ci := 0) (k := 2) X h71 (Nat.le_of_ble_eq_true rfl) (Nat.le_of_ble_eq_true rfl) rfl rfl q223 d_W_count_186 ?_
    obtain ⟨x72, h73, hf⟩ := obind hf
    refine r_ld_I (ci := 6) (k := 1) X h73 (Nat.le_of_ble_eq_true rfl) (Nat.le_of_ble_eq_true rfl) (Or.inl rfl) rfl q42 d_W_count_189 ?_
    refine r_aload_n X d_W_count_192 rfl 0 rfl ?_
    obtain ⟨x74, h75, hf⟩ := obind hf
    refine r_ld_R (ci := 0) (k := 3) X h75 (Nat.le_of_ble_eq_true rfl) (Nat.le_of_ble_eq_true rfl) rfl rfl q224 d_W_count_193 ?_
    obtain ⟨x76, h77, hf⟩ := obind hf
    refine r_ld_I (ci := 6) (k := 1) X h77 (Nat.le_of_ble_eq_true rfl) (Nat.le_of_ble_eq_true rfl) (Or.inl rfl) rfl q42 d_W_count_196 ?_
    refine r_iadd X d_W_count_199 ?_
    cases hf
    refine r_widen (kc2 := rm_W_count.cells) (ks2 := rm_W_count.slots) (Nat.le_of_ble_eq_true rfl) (Nat.le_of_ble_eq_true rfl) ?_
    exact r_iret X hret hlk d_W_count_200
  have hf := (if_neg hc69).symm.trans hf
  by_cases hc78 : v1 = 14
  · have hf := (if_pos hc78).symm.trans hf
    refine r_tableIn (tgt := 201) (off := 200) X d_W_count_1 (by rw [hc78]; decide) (by rw [hc78]; decide) (by rw [hc78]; decide) (by decide) ?_
    refine r_aload_n X d_W_count_201 rfl 0 rfl ?_
    obtain ⟨x79, h80, hf⟩ := obind hf
    refine r_ld_R (ci := 0) (k := 4) X h80 (Nat.le_of_ble_eq_true rfl) (Nat.le_of_ble_eq_true rfl) rfl rfl q225 d_W_count_202 ?_
    obtain ⟨x81, h82, hf⟩ := obind hf
    refine r_ld_I (ci := 9) (k := 2) X h82 (Nat.le_of_ble_eq_true rfl) (Nat.le_of_ble_eq_true rfl) (Or.inl rfl) rfl q64 d_W_count_205 ?_
    cases hf
    refine r_widen (kc2 := rm_W_count.cells) (ks2 := rm_W_count.slots) (Nat.le_of_ble_eq_true rfl) (Nat.le_of_ble_eq_true rfl) ?_
    exact r_iret X hret hlk d_W_count_208
  have hf := (if_neg hc78).symm.trans hf
  by_cases hc83 : v1 = 15
  · have hf := (if_pos hc83).symm.trans hf
    refine r_tableIn (tgt := 209) (off := 208) X d_W_count_1 (by rw [hc83]; decide) (by rw [hc83]; decide) (by rw [hc83]; decide) (by decide) ?_
    refine r_aload_n X d_W_count_209 rfl 0 rfl ?_
    obtain ⟨x84, h85, hf⟩ := obind hf
    refine r_ld_R (ci := 0) (k := 7) X h85 (Nat.le_of_ble_eq_true rfl) (Nat.le_of_ble_eq_true rfl) rfl rfl q228 d_W_count_210 ?_
    obtain ⟨x86, h87, hf⟩ := obind hf
    refine r_ld_I (ci := 2) (k := 2) X h87 (Nat.le_of_ble_eq_true rfl) (Nat.le_of_ble_eq_true rfl) (Or.inl rfl) rfl q124 d_W_count_213 ?_
    cases hf
    refine r_widen (kc2 := rm_W_count.cells) (ks2 := rm_W_count.slots) (Nat.le_of_ble_eq_true rfl) (Nat.le_of_ble_eq_true rfl) ?_
    exact r_iret X hret hlk d_W_count_216
  have hf := (if_neg hc83).symm.trans hf
  by_cases hc88 : v1 = 16
  · have hf := (if_pos hc88).symm.trans hf
    refine r_tableIn (tgt := 217) (off := 216) X d_W_count_1 (by rw [hc88]; decide) (by rw [hc88]; decide) (by rw [hc88]; decide) (by decide) ?_
    refine r_aload_n X d_W_count_217 rfl 0 rfl ?_
    obtain ⟨x89, h90, hf⟩ := obind hf
    refine r_ld_R (ci := 0) (k := 2) X h90 (Nat.le_of_ble_eq_true rfl) (Nat.le_of_ble_eq_true rfl) rfl rfl q223 d_W_count_218 ?_
    obtain ⟨x91, h92, hf⟩ := obind hf
    refine r_ld_I (ci := 6) (k := 2) X h92 (Nat.le_of_ble_eq_true rfl) (Nat.le_of_ble_eq_true rfl) (Or.inl rfl) rfl q44 d_W_count_221 ?_
    refine r_aload_n X d_W_count_224 rfl 0 rfl ?_
    obtain ⟨x93, h94, hf⟩ := obind hf
    refine r_ld_R (ci := 0) (k := 3) X h94 (Nat.le_of_ble_eq_true rfl) (Nat.le_of_ble_eq_true rfl) rfl rfl q224 d_W_count_225 ?_
    obtain ⟨x95, h96, hf⟩ := obind hf
    refine r_ld_I (ci := 6) (k := 2) X h96 (Nat.le_of_ble_eq_true rfl) (Nat.le_of_ble_eq_true rfl) (Or.inl rfl) rfl q44 d_W_count_228 ?_
    refine r_iadd X d_W_count_231 ?_
    cases hf
    refine r_widen (kc2 := rm_W_count.cells) (ks2 := rm_W_count.slots) (Nat.le_of_ble_eq_true rfl) (Nat.le_of_ble_eq_true rfl) ?_
    exact r_iret X hret hlk d_W_count_232
  have hf := (if_neg hc88).symm.trans hf
  by_cases hc97 : v1 = 17
  · have hf := (if_pos hc97).symm.trans hf
    refine r_tableIn (tgt := 233) (off := 232) X d_W_count_1 (by rw [hc97]; decide) (by rw [hc97]; decide) (by rw [hc97]; decide) (by decide) ?_
    refine r_aload_n X d_W_count_233 rfl 0 rfl ?_
    obtain ⟨x99, h98, hf⟩ := obind hf
    obtain ⟨x102, σ101, h100, hf⟩ := pbind hf
    refine r_callV (st := []) X [] (ci := 0) h98 (Nat.le_of_ble_eq_true rfl) q485 q487 sl12 (c_W_keysOnTheirWay n v0 h100) q488 q1 y_W_keysOnTheirWay_ok rfl ⟨Nat.le_of_ble_eq_true rfl, Nat.le_of_ble_eq_true rfl⟩ (Nat.le_of_ble_eq_true rfl) ⟨Nat.le_of_ble_eq_true rfl, Nat.le_of_ble_eq_true rfl⟩ d_W_count_234 ?_
    cases hf
    refine r_widen (kc2 := rm_W_count.cells) (ks2 := rm_W_count.slots) (Nat.le_of_ble_eq_true rfl) (Nat.le_of_ble_eq_true rfl) ?_
    exact r_iret X hret hlk d_W_count_237
  have hf := (if_neg hc97).symm.trans hf
  refine r_tableOut (tgt := 238) X d_W_count_1 (sw_out 17 [0, 1, 2, 3, 4, 5, 6, 7, 8, 9, 10, 11, 12, 13, 14, 15, 16, 17] rfl (List.forall_mem_cons.mpr ⟨hc1, List.forall_mem_cons.mpr ⟨hc7, List.forall_mem_cons.mpr ⟨hc13, List.forall_mem_cons.mpr ⟨hc21, List.forall_mem_cons.mpr ⟨hc28, List.forall_mem_cons.mpr ⟨hc35, List.forall_mem_cons.mpr ⟨hc42, List.forall_mem_cons.mpr ⟨hc47, List.forall_mem_cons.mpr ⟨hc52, List.forall_mem_cons.mpr ⟨hc57, List.forall_mem_cons.mpr ⟨hc60, List.forall_mem_cons.mpr ⟨hc63, List.forall_mem_cons.mpr ⟨hc66, List.forall_mem_cons.mpr ⟨hc69, List.forall_mem_cons.mpr ⟨hc78, List.forall_mem_cons.mpr ⟨hc83, List.forall_mem_cons.mpr ⟨hc88, List.forall_mem_cons.mpr ⟨hc97, fun _ h => absurd h List.not_mem_nil⟩⟩⟩⟩⟩⟩⟩⟩⟩⟩⟩⟩⟩⟩⟩⟩⟩⟩)) (by decide) ?_
  refine r_iconst (v := -1) X d_W_count_238 (by decide) ?_
  cases hf
  refine r_widen (kc2 := rm_W_count.cells) (ks2 := rm_W_count.slots) (Nat.le_of_ble_eq_true rfl) (Nat.le_of_ble_eq_true rfl) ?_
  exact r_iret X hret hlk d_W_count_239

def f_W_often (n : Nat) (v0 : Option Nat) (v1 : Int32) (σ : Hp) : Option (Int32 × Hp) :=
  pb (f_W_isKey v1 σ) fun x3 σ2 =>
  if x3 = 0 then
  (
    some ((-1), σ2))
  else
  (
    Option.bind (ld_R σ2 v0 0 7) fun x5 =>
    Option.bind (is_O σ2 x5 2) fun x8 =>
    pb (f_Co_leastOf n x5 v1 σ2) fun x11 σ10 =>
    some (x11, σ10))
set_option maxRecDepth 100000 in
theorem c_W_often {l : Launch} {DD : DT} (n : Nat) (v0 : Option Nat) (v1 : Int32) {σ0 σz : Hp} {rz : Int32} (hf : f_W_often n v0 v1 σ0 = some (rz, σz)) : CT l DD y_W_often prog_1_method_13_code 2 (some .int) rm_W_often [tR v0, tI v1] σ0 (some (tI rz)) σz := by
  refine r_met (by decide) (Nat.le_of_ble_eq_true rfl) ?_
  intro p e s m args below meth c X hret hlk hnm
  unfold f_W_often at hf
  refine r_iload_n X d_W_often_0 rfl 1 rfl ?_
  obtain ⟨x3, σ2, h1, hf⟩ := pbind hf
  refine r_callS (st := []) X [tI v1] q271 q272 (c_W_isKey v1 h1) q273 q1 y_W_isKey_ok rfl ⟨Nat.le_of_ble_eq_true rfl, Nat.le_of_ble_eq_true rfl⟩ (Nat.le_of_ble_eq_true rfl) ⟨Nat.le_of_ble_eq_true rfl, Nat.le_of_ble_eq_true rfl⟩ d_W_often_1 ?_
  refine r_if_eq (tgt := 18) X d_W_often_4 (by decide) (fun hc4 => ?_) (fun hc4 => ?_)
  · have hf := (if_pos hc4).symm.trans hf
    refine r_iconst (v := -1) X d_W_often_18 (by decide) ?_
    cases hf
    refine r_widen (kc2 := rm_W_often.cells) (ks2 := rm_W_often.slots) (Nat.le_of_ble_eq_true rfl) (Nat.le_of_ble_eq_true rfl) ?_
    exact r_iret X hret hlk d_W_often_19
  · have hf := (if_neg hc4).symm.trans hf
    refine r_aload_n X d_W_often_7 rfl 0 rfl ?_
    obtain ⟨x5, h6, hf⟩ := obind hf
    refine r_ld_R (ci := 0) (k := 7) X h6 (Nat.le_of_ble_eq_true rfl) (Nat.le_of_ble_eq_true rfl) rfl rfl q228 d_W_often_8 ?_
    refine r_iload_n X d_W_often_11 rfl 1 rfl ?_
    obtain ⟨x8, h7, hf⟩ := obind hf
    obtain ⟨x11, σ10, h9, hf⟩ := pbind hf
    refine r_callV (st := []) X [tI v1] (ci := 2) h7 (Nat.le_of_ble_eq_true rfl) q415 q416 q417 (c_Co_leastOf n x5 v1 h9) q418 q7 y_Co_leastOf_ok rfl ⟨Nat.le_of_ble_eq_true rfl, Nat.le_of_ble_eq_true rfl⟩ (Nat.le_of_ble_eq_true rfl) ⟨Nat.le_of_ble_eq_true rfl, Nat.le_of_ble_eq_true rfl⟩ d_W_often_12 ?_
    refine r_goto (tgt := 19) X d_W_often_15 (by decide) ?_
    cases hf
    refine r_widen (kc2 := rm_W_often.cells) (ks2 := rm_W_often.slots) (Nat.le_of_ble_eq_true rfl) (Nat.le_of_ble_eq_true rfl) ?_
    exact r_iret X hret hlk d_W_often_19

def f_W_at (n : Nat) (v0 : Option Nat) (v1 : Int32) (v2 : Int32) (σ : Hp) : Option (Int32 × Hp) :=
  if v1 = 0 then
  (
    Option.bind (ld_R σ v0 0 8) fun x2 =>
    Option.bind (ld_R σ x2 8 1) fun x4 =>
    Option.bind (is_O σ x4 7) fun x7 =>
    pb (f_Ro_keyAt n x4 v2 σ) fun x10 σ9 =>
    some (x10, σ9))
  else
  if v1 = 1 then
  (
    Option.bind (ld_R σ v0 0 8) fun x12 =>
    Option.bind (ld_R σ x12 8 2) fun x14 =>
    Option.bind (is_O σ x14 7) fun x17 =>
    pb (f_Ro_keyAt n x14 v2 σ) fun x20 σ19 =>
    some (x20, σ19))
  else
  if v1 = 2 then
  (
    Option.bind (ld_R σ v0 0 8) fun x22 =>
    Option.bind (ld_R σ x22 8 3) fun x24 =>
    Option.bind (is_O σ x24 7) fun x27 =>
    pb (f_Ro_keyAt n x24 v2 σ) fun x30 σ29 =>
    some (x30, σ29))
  else
  (
    some ((-1), σ))
set_option maxRecDepth 100000 in
theorem c_W_at {l : Launch} {DD : DT} (n : Nat) (v0 : Option Nat) (v1 : Int32) (v2 : Int32) {σ0 σz : Hp} {rz : Int32} (hf : f_W_at n v0 v1 v2 σ0 = some (rz, σz)) : CT l DD y_W_at prog_1_method_14_code 3 (some .int) rm_W_at [tR v0, tI v1, tI v2] σ0 (some (tI rz)) σz := by
  refine r_met (by decide) (Nat.le_of_ble_eq_true rfl) ?_
  intro p e s m args below meth c X hret hlk hnm
  unfold f_W_at at hf
  refine r_iload_n X d_W_at_0 rfl 1 rfl ?_
  by_cases hc1 : v1 = 0
  · have hf := (if_pos hc1).symm.trans hf
    refine r_tableIn (tgt := 28) (off := 27) X d_W_at_1 (by rw [hc1]; decide) (by rw [hc1]; decide) (by rw [hc1]; decide) (by decide) ?_
    refine r_aload_n X d_W_at_28 rfl 0 rfl ?_
    obtain ⟨x2, h3, hf⟩ := obind hf
    refine r_ld_R (ci := 0) (k := 8) X h3 (Nat.le_of_ble_eq_true rfl) (Nat.le_of_ble_eq_true rfl) rfl rfl q229 d_W_at_29 ?_
    obtain ⟨x4, h5, hf⟩ := obind hf
    refine r_ld_R (ci := 8) (k := 1) X h5 (Nat.le_of_ble_eq_true rfl) (Nat.le_of_ble_eq_true rfl) rfl rfl q165 d_W_at_32 ?_
    refine r_iload_n X d_W_at_35 rfl 2 rfl ?_
    obtain ⟨x7, h6, hf⟩ := obind hf
    obtain ⟨x10, σ9, h8, hf⟩ := pbind hf
    refine r_callV (st := []) X [tI v2] (ci := 7) h6 (Nat.le_of_ble_eq_true rfl) q497 q498 q499 (c_Ro_keyAt n x4 v2 h8) q500 q9 y_Ro_keyAt_ok rfl ⟨Nat.le_of_ble_eq_true rfl, Nat.le_of_ble_eq_true rfl⟩ (Nat.le_of_ble_eq_true rfl) ⟨Nat.le_of_ble_eq_true rfl, Nat.le_of_ble_eq_true rfl⟩ d_W_at_36 ?_
    cases hf
    refine r_widen (kc2 := rm_W_at.cells) (ks2 := rm_W_at.slots) (Nat.le_of_ble_eq_true rfl) (Nat.le_of_ble_eq_true rfl) ?_
    exact r_iret X hret hlk d_W_at_39
  have hf := (if_neg hc1).symm.trans hf
  by_cases hc11 : v1 = 1
  · have hf := (if_pos hc11).symm.trans hf
    refine r_tableIn (tgt := 40) (off := 39) X d_W_at_1 (by rw [hc11]; decide) (by rw [hc11]; decide) (by rw [hc11]; decide) (by decide) ?_
    refine r_aload_n X d_W_at_40 rfl 0 rfl ?_
    obtain ⟨x12, h13, hf⟩ := obind hf
    refine r_ld_R (ci := 0) (k := 8) X h13 (Nat.le_of_ble_eq_true rfl) (Nat.le_of_ble_eq_true rfl) rfl rfl q229 d_W_at_41 ?_
    obtain ⟨x14, h15, hf⟩ := obind hf
    refine r_ld_R (ci := 8) (k := 2) X h15 (Nat.le_of_ble_eq_true rfl) (Nat.le_of_ble_eq_true rfl) rfl rfl q167 d_W_at_44 ?_
    refine r_iload_n X d_W_at_47 rfl 2 rfl ?_
    obtain ⟨x17, h16, hf⟩ := obind hf
    obtain ⟨x20, σ19, h18, hf⟩ := pbind hf
    refine r_callV (st := []) X [tI v2] (ci := 7) h16 (Nat.le_of_ble_eq_true rfl) q497 q498 q499 (c_Ro_keyAt n x14 v2 h18) q500 q9 y_Ro_keyAt_ok rfl ⟨Nat.le_of_ble_eq_true rfl, Nat.le_of_ble_eq_true rfl⟩ (Nat.le_of_ble_eq_true rfl) ⟨Nat.le_of_ble_eq_true rfl, Nat.le_of_ble_eq_true rfl⟩ d_W_at_48 ?_
    cases hf
    refine r_widen (kc2 := rm_W_at.cells) (ks2 := rm_W_at.slots) (Nat.le_of_ble_eq_true rfl) (Nat.le_of_ble_eq_true rfl) ?_
    exact r_iret X hret hlk d_W_at_51
  have hf := (if_neg hc11).symm.trans hf
  by_cases hc21 : v1 = 2
  · have hf := (if_pos hc21).symm.trans hf
    refine r_tableIn (tgt := 52) (off := 51) X d_W_at_1 (by rw [hc21]; decide) (by rw [hc21]; decide) (by rw [hc21]; decide) (by decide) ?_
    refine r_aload_n X d_W_at_52 rfl 0 rfl ?_
    obtain ⟨x22, h23, hf⟩ := obind hf
    refine r_ld_R (ci := 0) (k := 8) X h23 (Nat.le_of_ble_eq_true rfl) (Nat.le_of_ble_eq_true rfl) rfl rfl q229 d_W_at_53 ?_
    obtain ⟨x24, h25, hf⟩ := obind hf
    refine r_ld_R (ci := 8) (k := 3) X h25 (Nat.le_of_ble_eq_true rfl) (Nat.le_of_ble_eq_true rfl) rfl rfl q169 d_W_at_56 ?_
    refine r_iload_n X d_W_at_59 rfl 2 rfl ?_
    obtain ⟨x27, h26, hf⟩ := obind hf
    obtain ⟨x30, σ29, h28, hf⟩ := pbind hf
    refine r_callV (st := []) X [tI v2] (ci := 7) h26 (Nat.le_of_ble_eq_true rfl) q497 q498 q499 (c_Ro_keyAt n x24 v2 h28) q500 q9 y_Ro_keyAt_ok rfl ⟨Nat.le_of_ble_eq_true rfl, Nat.le_of_ble_eq_true rfl⟩ (Nat.le_of_ble_eq_true rfl) ⟨Nat.le_of_ble_eq_true rfl, Nat.le_of_ble_eq_true rfl⟩ d_W_at_60 ?_
    cases hf
    refine r_widen (kc2 := rm_W_at.cells) (ks2 := rm_W_at.slots) (Nat.le_of_ble_eq_true rfl) (Nat.le_of_ble_eq_true rfl) ?_
    exact r_iret X hret hlk d_W_at_63
  have hf := (if_neg hc21).symm.trans hf
  refine r_tableOut (tgt := 64) X d_W_at_1 (sw_out 2 [0, 1, 2] rfl (List.forall_mem_cons.mpr ⟨hc1, List.forall_mem_cons.mpr ⟨hc11, List.forall_mem_cons.mpr ⟨hc21, fun _ h => absurd h List.not_mem_nil⟩⟩⟩)) (by decide) ?_
  refine r_iconst (v := -1) X d_W_at_64 (by decide) ?_
  cases hf
  refine r_widen (kc2 := rm_W_at.cells) (ks2 := rm_W_at.slots) (Nat.le_of_ble_eq_true rfl) (Nat.le_of_ble_eq_true rfl) ?_
  exact r_iret X hret hlk d_W_at_65

def f_W_listened (v0 : Option Nat) (v1 : Int32) (v2 : Int32) (σ : Hp) : Option (Int32 × Hp) :=
  Option.bind (ld_R σ v0 0 5) fun x1 =>
  Option.bind (is_O σ x1 5) fun x4 =>
  pb (f_Lo_told x1 v1 v2 σ) fun x7 σ6 =>
  some (x7, σ6)
set_option maxRecDepth 100000 in
theorem c_W_listened {l : Launch} {DD : DT} (v0 : Option Nat) (v1 : Int32) (v2 : Int32) {σ0 σz : Hp} {rz : Int32} (hf : f_W_listened v0 v1 v2 σ0 = some (rz, σz)) : CT l DD y_W_listened prog_1_method_15_code 3 (some .int) rm_W_listened [tR v0, tI v1, tI v2] σ0 (some (tI rz)) σz := by
  refine r_met (by decide) (Nat.le_of_ble_eq_true rfl) ?_
  intro p e s m args below meth c X hret hlk hnm
  unfold f_W_listened at hf
  refine r_aload_n X d_W_listened_0 rfl 0 rfl ?_
  obtain ⟨x1, h2, hf⟩ := obind hf
  refine r_ld_R (ci := 0) (k := 5) X h2 (Nat.le_of_ble_eq_true rfl) (Nat.le_of_ble_eq_true rfl) rfl rfl q226 d_W_listened_1 ?_
  refine r_iload_n X d_W_listened_4 rfl 1 rfl ?_
  refine r_iload_n X d_W_listened_5 rfl 2 rfl ?_
  obtain ⟨x4, h3, hf⟩ := obind hf
  obtain ⟨x7, σ6, h5, hf⟩ := pbind hf
  refine r_callV (st := []) X [tI v1, tI v2] (ci := 5) h3 (Nat.le_of_ble_eq_true rfl) q505 q506 q507 (c_Lo_told x1 v1 v2 h5) q508 q4 y_Lo_told_ok rfl ⟨Nat.le_of_ble_eq_true rfl, Nat.le_of_ble_eq_true rfl⟩ (Nat.le_of_ble_eq_true rfl) ⟨Nat.le_of_ble_eq_true rfl, Nat.le_of_ble_eq_true rfl⟩ d_W_listened_6 ?_
  cases hf
  refine r_widen (kc2 := rm_W_listened.cells) (ks2 := rm_W_listened.slots) (Nat.le_of_ble_eq_true rfl) (Nat.le_of_ble_eq_true rfl) ?_
  exact r_iret X hret hlk d_W_listened_9

def f_W_isValue (v0 : Int32) (v1 : Int32) (σ : Hp) : Option (Int32 × Hp) :=
  if v0 < 0 then
  (
    some (0, σ))
  else
  (
    if v1 < 1 then
    (
      some (0, σ))
    else
    (
      if 1000 < v1 then
      (
        some (0, σ))
      else
      (
        some (1, σ))))
set_option maxRecDepth 100000 in
theorem c_W_isValue {l : Launch} {DD : DT} (v0 : Int32) (v1 : Int32) {σ0 σz : Hp} {rz : Int32} (hf : f_W_isValue v0 v1 σ0 = some (rz, σz)) : CT l DD y_W_isValue prog_1_method_17_code 2 (some .boolean) rm_W_isValue [tI v0, tI v1] σ0 (some (tI rz)) σz := by
  refine r_met (by decide) (Nat.le_of_ble_eq_true rfl) ?_
  intro p e s m args below meth c X hret hlk hnm
  unfold f_W_isValue at hf
  refine r_iload_n X d_W_isValue_0 rfl 0 rfl ?_
  refine r_if_lt (tgt := 20) X d_W_isValue_1 (by decide) (fun hc1 => ?_) (fun hc1 => ?_)
  · have hf := (if_pos hc1).symm.trans hf
    refine r_iconst (v := 0) X d_W_isValue_20 (by decide) ?_
    cases hf
    refine r_widen (kc2 := rm_W_isValue.cells) (ks2 := rm_W_isValue.slots) (Nat.le_of_ble_eq_true rfl) (Nat.le_of_ble_eq_true rfl) ?_
    exact r_zret X hret hlk (by decide) d_W_isValue_21
  · have hf := (if_neg hc1).symm.trans hf
    refine r_iload_n X d_W_isValue_4 rfl 1 rfl ?_
    refine r_iconst (v := 1) X d_W_isValue_5 (by decide) ?_
    refine r_icmp_lt (tgt := 20) X d_W_isValue_6 (by decide) (fun hc2 => ?_) (fun hc2 => ?_)
    · have hf := (if_pos hc2).symm.trans hf
      refine r_iconst (v := 0) X d_W_isValue_20 (by decide) ?_
      cases hf
      refine r_widen (kc2 := rm_W_isValue.cells) (ks2 := rm_W_isValue.slots) (Nat.le_of_ble_eq_true rfl) (Nat.le_of_ble_eq_true rfl) ?_
      exact r_zret X hret hlk (by decide) d_W_isValue_21
    · have hf := (if_neg hc2).symm.trans hf
      refine r_iload_n X d_W_isValue_9 rfl 1 rfl ?_
      refine r_sipush (v := 1000) X d_W_isValue_10 (by decide) ?_
      refine r_icmp_gt (tgt := 20) X d_W_isValue_13 (by decide) (fun hc3 => ?_) (fun hc3 => ?_)
      · have hf := (if_pos hc3).symm.trans hf
        refine r_iconst (v := 0) X d_W_isValue_20 (by decide) ?_
        cases hf
        refine r_widen (kc2 := rm_W_isValue.cells) (ks2 := rm_W_isValue.slots) (Nat.le_of_ble_eq_true rfl) (Nat.le_of_ble_eq_true rfl) ?_
        exact r_zret X hret hlk (by decide) d_W_isValue_21
      · have hf := (if_neg hc3).symm.trans hf
        refine r_iconst (v := 1) X d_W_isValue_16 (by decide) ?_
        refine r_goto (tgt := 21) X d_W_isValue_17 (by decide) ?_
        cases hf
        refine r_widen (kc2 := rm_W_isValue.cells) (ks2 := rm_W_isValue.slots) (Nat.le_of_ble_eq_true rfl) (Nat.le_of_ble_eq_true rfl) ?_
        exact r_zret X hret hlk (by decide) d_W_isValue_21

def f_W_fill_25  (v0 : Option Nat) (v1 : Option Nat) (v2 : Int32) (v3 : Int32) (v4 : Int32) (σ : Hp) : Option Hp :=
  Option.bind (st_I σ v1 3 1 v2) fun σ4 =>
  Option.bind (st_I σ4 v1 3 2 v3) fun σ6 =>
  Option.bind (ld_I σ6 v1 3 3) fun x8 =>
  Option.bind (st_I σ6 v1 3 3 (x8 + 1)) fun σ10 =>
  Option.bind (ld_R σ10 v0 0 6) fun x12 =>
  Option.bind (is_O σ10 x12 4) fun x15 =>
  Option.bind (f_Li_begin x12 v1 v4 σ10) fun σ17 =>
  some σ17
set_option maxRecDepth 100000 in
theorem b_W_fill_25 {p : Program} {l : Launch} {e : Env} {s : State} {m : MethodId} {args : Array Value} {below : List Frame} {meth : Method} {c : Code} {DD : DT} {σ0 σz : Hp} (X : CX p s m args c prog_1_method_22_code 5 (dm σ0) DD y_W_fill.cls) (hret : meth.sig.returnType = none) (hlk : meth.locks = false) (hnm : meth.name = y_W_fill.name)   (v0 : Option Nat) (v1 : Option Nat) (v2 : Int32) (v3 : Int32) (v4 : Int32) (σ : Hp) (hf : f_W_fill_25  v0 v1 v2 v3 v4 σ = some σz) : GG p l e rm_W_fill s m args below meth c 5 (dm σ0) DD (MQ below (Post DD σ0 none σz) args s rm_W_fill.cells rm_W_fill.slots (dm σ0)) 0 0 σ 25 [(0, tR v0), (1, tR v1), (2, tI v2), (3, tI v3), (4, tI v4)] [] := by
  unfold f_W_fill_25 at hf
  refine r_aload_n X d_W_fill_25 rfl 1 rfl ?_
  refine r_iload_n X d_W_fill_26 rfl 2 rfl ?_
  obtain ⟨σ4, h5, hf⟩ := obind hf
  refine r_st_I (ci := 3) (k := 1) X h5 (Nat.le_of_ble_eq_true rfl) (Nat.le_of_ble_eq_true rfl) rfl rfl rfl q609 d_W_fill_27 ?_
  refine r_aload_n X d_W_fill_30 rfl 1 rfl ?_
  refine r_iload_n X d_W_fill_31 rfl 3 rfl ?_
  obtain ⟨σ6, h7, hf⟩ := obind hf
  refine r_st_I (ci := 3) (k := 2) X h7 (Nat.le_of_ble_eq_true rfl) (Nat.le_of_ble_eq_true rfl) rfl rfl rfl q612 d_W_fill_32 ?_
  refine r_aload_n X d_W_fill_35 rfl 1 rfl ?_
  refine r_dup X d_W_fill_36 rfl ?_
  obtain ⟨x8, h9, hf⟩ := obind hf
  refine r_ld_I (ci := 3) (k := 3) X h9 (Nat.le_of_ble_eq_true rfl) (Nat.le_of_ble_eq_true rfl) (Or.inl rfl) rfl q613 d_W_fill_37 ?_
  refine r_iconst (v := 1) X d_W_fill_40 (by decide) ?_
  refine r_iadd X d_W_fill_41 ?_
  obtain ⟨σ10, h11, hf⟩ := obind hf
  refine r_st_I (ci := 3) (k := 3) X h11 (Nat.le_of_ble_eq_true rfl) (Nat.le_of_ble_eq_true rfl) rfl rfl rfl q613 d_W_fill_42 ?_
  refine r_aload_n X d_W_fill_45 rfl 0 rfl ?_
  obtain ⟨x12, h13, hf⟩ := obind hf
  refine r_ld_R (ci := 0) (k := 6) X h13 (Nat.le_of_ble_eq_true rfl) (Nat.le_of_ble_eq_true rfl) rfl rfl q227 d_W_fill_46 ?_
  refine r_aload_n X d_W_fill_49 rfl 1 rfl ?_
  refine r_iload X d_W_fill_50 4 rfl ?_
  obtain ⟨x15, h14, hf⟩ := obind hf
  obtain ⟨σ17, h16, hf⟩ := obind hf
  refine r_callV (st := []) X [tR v1, tI v4] (ci := 4) h14 (Nat.le_of_ble_eq_true rfl) q593 q594 q595 (c_Li_begin x12 v1 v4 h16) q596 q6 y_Li_begin_ok rfl ⟨Nat.le_of_ble_eq_true rfl, Nat.le_of_ble_eq_true rfl⟩ (Nat.le_of_ble_eq_true rfl) ⟨Nat.le_of_ble_eq_true rfl, Nat.le_of_ble_eq_true rfl⟩ d_W_fill_52 ?_
  cases hf
  refine r_widen (kc2 := rm_W_fill.cells) (ks2 := rm_W_fill.slots) (Nat.le_of_ble_eq_true rfl) (Nat.le_of_ble_eq_true rfl) ?_
  exact r_vret X hret hlk d_W_fill_55

def f_W_fill (v0 : Option Nat) (v1 : Option Nat) (v2 : Int32) (v3 : Int32) (v4 : Int32) (σ : Hp) : Option Hp :=
  Option.bind (ld_R σ v1 3 8) fun x1 =>
  if x1 = none then
  (
    f_W_fill_25  v0 v1 v2 v3 v4 σ)
  else
  (
    Option.bind (ld_R σ v1 3 8) fun x18 =>
    Option.bind (ld_I σ x18 7 2) fun x20 =>
    Option.bind (ld_I σ v1 3 2) fun x22 =>
    Option.bind (st_I σ x18 7 2 (x20 + (v3 - x22))) fun σ24 =>
    f_W_fill_25  v0 v1 v2 v3 v4 σ24)
set_option maxRecDepth 100000 in
theorem c_W_fill {l : Launch} {DD : DT} (v0 : Option Nat) (v1 : Option Nat) (v2 : Int32) (v3 : Int32) (v4 : Int32) {σ0 σz : Hp} (hf : f_W_fill v0 v1 v2 v3 v4 σ0 = some σz) : CT l DD y_W_fill prog_1_method_22_code 5 none rm_W_fill [tR v0, tR v1, tI v2, tI v3, tI v4] σ0 none σz := by
  refine r_met (by decide) (Nat.le_of_ble_eq_true rfl) ?_
  intro p e s m args below meth c X hret hlk hnm
  unfold f_W_fill at hf
  refine r_aload_n X d_W_fill_0 rfl 1 rfl ?_
  obtain ⟨x1, h2, hf⟩ := obind hf
  refine r_ld_R (ci := 3) (k := 8) X h2 (Nat.le_of_ble_eq_true rfl) (Nat.le_of_ble_eq_true rfl) rfl rfl q621 d_W_fill_1 ?_
  refine r_ifnull (tgt := 25) X d_W_fill_4 (by decide) (fun hc3 => ?_) (fun hc3 => ?_)
  · have hf := (if_pos hc3).symm.trans hf
    refine r_widen (kc2 := 0) (ks2 := 0) (Nat.le_of_ble_eq_true rfl) (Nat.le_of_ble_eq_true rfl) ?_
    refine r_sub [0, 1, 2, 3, 4] (lv' := [(0, tR v0), (1, tR v1), (2, tI v2), (3, tI v3), (4, tI v4)]) rfl ?_
    exact b_W_fill_25 X hret hlk hnm   v0 v1 v2 v3 v4 σ0 hf
  · have hf := (if_neg hc3).symm.trans hf
    refine r_aload_n X d_W_fill_7 rfl 1 rfl ?_
    obtain ⟨x18, h19, hf⟩ := obind hf
    refine r_ld_R (ci := 3) (k := 8) X h19 (Nat.le_of_ble_eq_true rfl) (Nat.le_of_ble_eq_true rfl) rfl rfl q621 d_W_fill_8 ?_
    refine r_dup X d_W_fill_11 rfl ?_
    obtain ⟨x20, h21, hf⟩ := obind hf
    refine r_ld_I (ci := 7) (k := 2) X h21 (Nat.le_of_ble_eq_true rfl) (Nat.le_of_ble_eq_true rfl) (Or.inl rfl) rfl q149 d_W_fill_12 ?_
    refine r_iload_n X d_W_fill_15 rfl 3 rfl ?_
    refine r_aload_n X d_W_fill_16 rfl 1 rfl ?_
    obtain ⟨x22, h23, hf⟩ := obind hf
    refine r_ld_I (ci := 3) (k := 2) X h23 (Nat.le_of_ble_eq_true rfl) (Nat.le_of_ble_eq_true rfl) (Or.inl rfl) rfl q612 d_W_fill_17 ?_
    refine r_isub X d_W_fill_20 ?_
    refine r_iadd X d_W_fill_21 ?_
    obtain ⟨σ24, h25, hf⟩ := obind hf
    refine r_st_I (ci := 7) (k := 2) X h25 (Nat.le_of_ble_eq_true rfl) (Nat.le_of_ble_eq_true rfl) rfl rfl rfl q149 d_W_fill_22 ?_
    refine r_widen (kc2 := 0) (ks2 := 0) (Nat.le_of_ble_eq_true rfl) (Nat.le_of_ble_eq_true rfl) ?_
    refine r_sub [0, 1, 2, 3, 4] (lv' := [(0, tR v0), (1, tR v1), (2, tI v2), (3, tI v3), (4, tI v4)]) rfl ?_
    exact b_W_fill_25 X hret hlk hnm   v0 v1 v2 v3 v4 σ24 hf

def f_W_store_90 (n : Nat)  (v0 : Option Nat) (v1 : Int32) (v2 : Int32) (v3 : Int32) (v4 : Int32) (σ : Hp) : Option (Int32 × Hp) :=
  Option.bind (f_En_init (some (hp_N σ)) v1 (nw_O σ 3)) fun σ8 =>
  Option.bind (is_O σ8 v0 0) fun x10 =>
  Option.bind (f_W_fill v0 (some (hp_N σ)) v2 v3 v4 σ8) fun σ12 =>
  Option.bind (ld_R σ12 v0 0 0) fun x13 =>
  Option.bind (as_R σ12 3 3 x13 v1 (some (hp_N σ))) fun σ15 =>
  Option.bind (ld_R σ15 v0 0 4) fun x17 =>
  Option.bind (is_O σ15 x17 9) fun x20 =>
  pb (f_Ta_addUntilFull x17 0 (some (hp_N σ)) σ15) fun x23 σ22 =>
  if x23 = 0 then
  (
    some (0, σ22))
  else
  (
    Option.bind (is_O σ22 v0 0) fun x26 =>
    Option.bind (f_W_tidy n v0 σ22) fun σ28 =>
    some (0, σ28))
set_option maxRecDepth 100000 in
theorem b_W_store_90 {p : Program} {l : Launch} {e : Env} {s : State} {m : MethodId} {args : Array Value} {below : List Frame} {meth : Method} {c : Code} {DD : DT} {σ0 σz : Hp} {rz : Int32} (X : CX p s m args c prog_1_method_21_code 7 (dm σ0) DD y_W_store.cls) (hret : meth.sig.returnType = some .boolean) (hlk : meth.locks = false) (hnm : meth.name = y_W_store.name) (n : Nat)   (v0 : Option Nat) (v1 : Int32) (v2 : Int32) (v3 : Int32) (v4 : Int32) (σ : Hp) (hf : f_W_store_90 n  v0 v1 v2 v3 v4 σ = some (rz, σz)) : GG p l e rm_W_store s m args below meth c 7 (dm σ0) DD (MQ below (Post DD σ0 (some (tI rz)) σz) args s rm_W_store.cells rm_W_store.slots (dm σ0)) 0 0 σ 90 [(0, tR v0), (1, tI v1), (2, tI v2), (3, tI v3), (4, tI v4)] [] := by
  unfold f_W_store_90 at hf
  refine r_new (ci := 3) X (Nat.le_of_ble_eq_true rfl) q28 q599 q17 (Nat.le_of_ble_eq_true rfl) (Nat.le_of_ble_eq_true rfl) d_W_store_90 ?_
  refine r_dup X d_W_store_93 rfl ?_
  refine r_iload_n X d_W_store_94 rfl 1 rfl ?_
  obtain ⟨σ8, h7, hf⟩ := obind hf
  refine r_callI (ret := none) (st := [tR (some (hp_N σ))]) X [tI v1] rfl q600 q601 rfl (c_En_init (some (hp_N σ)) v1 h7) q602 q17 y_En_init_ok rfl ⟨Nat.le_of_ble_eq_true rfl, Nat.le_of_ble_eq_true rfl⟩ (Nat.le_of_ble_eq_true rfl) ⟨Nat.le_of_ble_eq_true rfl, Nat.le_of_ble_eq_true rfl⟩ d_W_store_95 ?_
  refine r_astore (lv' := [(0, tR v0), (1, tI v1), (2, tI v2), (3, tI v3), (4, tI v4), (6, tR (some (hp_N σ)))]) X [1, 2, 3, 4, 5, 0] d_W_store_98 (Nat.le_of_ble_eq_true rfl) rfl ?_
  refine r_aload_n X d_W_store_100 rfl 0 rfl ?_
  refine r_aload X d_W_store_101 5 rfl ?_
  refine r_iload_n X d_W_store_103 rfl 2 rfl ?_
  refine r_iload_n X d_W_store_104 rfl 3 rfl ?_
  refine r_iload X d_W_store_105 4 rfl ?_
  obtain ⟨x10, h9, hf⟩ := obind hf
  obtain ⟨σ12, h11, hf⟩ := obind hf
  refine r_callV (st := []) X [tR (some (hp_N σ)), tI v2, tI v3, tI v4] (ci := 0) h9 (Nat.le_of_ble_eq_true rfl) q589 q591 sl15 (c_W_fill v0 (some (hp_N σ)) v2 v3 v4 h11) q592 q1 y_W_fill_ok rfl ⟨Nat.le_of_ble_eq_true rfl, Nat.le_of_ble_eq_true rfl⟩ (Nat.le_of_ble_eq_true rfl) ⟨Nat.le_of_ble_eq_true rfl, Nat.le_of_ble_eq_true rfl⟩ d_W_store_107 ?_
  refine r_aload_n X d_W_store_110 rfl 0 rfl ?_
  obtain ⟨x13, h14, hf⟩ := obind hf
  refine r_ld_R (ci := 0) (k := 0) X h14 (Nat.le_of_ble_eq_true rfl) (Nat.le_of_ble_eq_true rfl) rfl rfl q221 d_W_store_111 ?_
  refine r_iload_n X d_W_store_114 rfl 1 rfl ?_
  refine r_aload X d_W_store_115 5 rfl ?_
  obtain ⟨σ15, h16, hf⟩ := obind hf
  refine r_as_E X h16 d_W_store_117 ?_
  refine r_aload_n X d_W_store_118 rfl 0 rfl ?_
  obtain ⟨x17, h18, hf⟩ := obind hf
  refine r_ld_R (ci := 0) (k := 4) X h18 (Nat.le_of_ble_eq_true rfl) (Nat.le_of_ble_eq_true rfl) rfl rfl q225 d_W_store_119 ?_
  refine r_iconst (v := 0) X d_W_store_122 (by decide) ?_
  refine r_aload X d_W_store_123 5 rfl ?_
  obtain ⟨x20, h19, hf⟩ := obind hf
  obtain ⟨x23, σ22, h21, hf⟩ := pbind hf
  refine r_callV (st := []) X [tI 0, tR (some (hp_N σ))] (ci := 9) h19 (Nat.le_of_ble_eq_true rfl) q313 q314 q315 (c_Ta_addUntilFull x17 0 (some (hp_N σ)) h21) q316 q3 y_Ta_addUntilFull_ok rfl ⟨Nat.le_of_ble_eq_true rfl, Nat.le_of_ble_eq_true rfl⟩ (Nat.le_of_ble_eq_true rfl) ⟨Nat.le_of_ble_eq_true rfl, Nat.le_of_ble_eq_true rfl⟩ d_W_store_125 ?_
  refine r_if_eq (tgt := 135) X d_W_store_128 (by decide) (fun hc24 => ?_) (fun hc24 => ?_)
  · have hf := (if_pos hc24).symm.trans hf
    refine r_iconst (v := 0) X d_W_store_135 (by decide) ?_
    cases hf
    refine r_widen (kc2 := rm_W_store.cells) (ks2 := rm_W_store.slots) (Nat.le_of_ble_eq_true rfl) (Nat.le_of_ble_eq_true rfl) ?_
    exact r_zret X hret hlk (by decide) d_W_store_136
  · have hf := (if_neg hc24).symm.trans hf
    refine r_aload_n X d_W_store_131 rfl 0 rfl ?_
    obtain ⟨x26, h25, hf⟩ := obind hf
    obtain ⟨σ28, h27, hf⟩ := obind hf
    refine r_callV (st := []) X [] (ci := 0) h25 (Nat.le_of_ble_eq_true rfl) q317 q319 sl3 (c_W_tidy n v0 h27) q320 q1 y_W_tidy_ok rfl ⟨Nat.le_of_ble_eq_true rfl, Nat.le_of_ble_eq_true rfl⟩ (Nat.le_of_ble_eq_true rfl) ⟨Nat.le_of_ble_eq_true rfl, Nat.le_of_ble_eq_true rfl⟩ d_W_store_132 ?_
    refine r_iconst (v := 0) X d_W_store_135 (by decide) ?_
    cases hf
    refine r_widen (kc2 := rm_W_store.cells) (ks2 := rm_W_store.slots) (Nat.le_of_ble_eq_true rfl) (Nat.le_of_ble_eq_true rfl) ?_
    exact r_zret X hret hlk (by decide) d_W_store_136

def f_W_store_61 (n : Nat)  (v0 : Option Nat) (v1 : Int32) (v2 : Int32) (v3 : Int32) (v4 : Int32) (v5 : Option Nat) (σ : Hp) : Option (Int32 × Hp) :=
  if v5 = none then
  (
    f_W_store_90 n  v0 v1 v2 v3 v4 σ)
  else
  (
    Option.bind (is_O σ v0 0) fun x30 =>
    Option.bind (f_W_dropFromMap v0 v5 2 σ) fun σ32 =>
    Option.bind (ld_R σ32 v0 0 4) fun x33 =>
    Option.bind (is_O σ32 x33 9) fun x36 =>
    pb (f_Ta_addUntilFull x33 2 v5 σ32) fun x39 σ38 =>
    if x39 = 0 then
    (
      f_W_store_90 n  v0 v1 v2 v3 v4 σ38)
    else
    (
      Option.bind (is_O σ38 v0 0) fun x42 =>
      Option.bind (f_W_tidy n v0 σ38) fun σ44 =>
      f_W_store_90 n  v0 v1 v2 v3 v4 σ44))
set_option maxRecDepth 100000 in
theorem b_W_store_61 {p : Program} {l : Launch} {e : Env} {s : State} {m : MethodId} {args : Array Value} {below : List Frame} {meth : Method} {c : Code} {DD : DT} {σ0 σz : Hp} {rz : Int32} (X : CX p s m args c prog_1_method_21_code 7 (dm σ0) DD y_W_store.cls) (hret : meth.sig.returnType = some .boolean) (hlk : meth.locks = false) (hnm : meth.name = y_W_store.name) (n : Nat)   (v0 : Option Nat) (v1 : Int32) (v2 : Int32) (v3 : Int32) (v4 : Int32) (v5 : Option Nat) (σ : Hp) (hf : f_W_store_61 n  v0 v1 v2 v3 v4 v5 σ = some (rz, σz)) : GG p l e rm_W_store s m args below meth c 7 (dm σ0) DD (MQ below (Post DD σ0 (some (tI rz)) σz) args s rm_W_store.cells rm_W_store.slots (dm σ0)) 0 0 σ 61 [(0, tR v0), (1, tI v1), (2, tI v2), (3, tI v3), (4, tI v4), (5, tR v5)] [] := by
  unfold f_W_store_61 at hf
  refine r_aload X d_W_store_61 5 rfl ?_
  refine r_ifnull (tgt := 90) X d_W_store_63 (by decide) (fun hc6 => ?_) (fun hc6 => ?_)
  · have hf := (if_pos hc6).symm.trans hf
    refine r_widen (kc2 := 0) (ks2 := 0) (Nat.le_of_ble_eq_true rfl) (Nat.le_of_ble_eq_true rfl) ?_
    refine r_sub [0, 1, 2, 3, 4] (lv' := [(0, tR v0), (1, tI v1), (2, tI v2), (3, tI v3), (4, tI v4)]) rfl ?_
    exact b_W_store_90 X hret hlk hnm n   v0 v1 v2 v3 v4 σ hf
  · have hf := (if_neg hc6).symm.trans hf
    refine r_aload_n X d_W_store_66 rfl 0 rfl ?_
    refine r_aload X d_W_store_67 5 rfl ?_
    refine r_iconst (v := 2) X d_W_store_69 (by decide) ?_
    obtain ⟨x30, h29, hf⟩ := obind hf
    obtain ⟨σ32, h31, hf⟩ := obind hf
    refine r_callV (st := []) X [tR v5, tI 2] (ci := 0) h29 (Nat.le_of_ble_eq_true rfl) q305 q307 sl2 (c_W_dropFromMap v0 v5 2 h31) q308 q1 y_W_dropFromMap_ok rfl ⟨Nat.le_of_ble_eq_true rfl, Nat.le_of_ble_eq_true rfl⟩ (Nat.le_of_ble_eq_true rfl) ⟨Nat.le_of_ble_eq_true rfl, Nat.le_of_ble_eq_true rfl⟩ d_W_store_70 ?_
    refine r_aload_n X d_W_store_73 rfl 0 rfl ?_
    obtain ⟨x33, h34, hf⟩ := obind hf
    refine r_ld_R (ci := 0) (k := 4) X h34 (Nat.le_of_ble_eq_true rfl) (Nat.le_of_ble_eq_true rfl) rfl rfl q225 d_W_store_74 ?_
    refine r_iconst (v := 2) X d_W_store_77 (by decide) ?_
    refine r_aload X d_W_store_78 5 rfl ?_
    obtain ⟨x36, h35, hf⟩ := obind hf
    obtain ⟨x39, σ38, h37, hf⟩ := pbind hf
    refine r_callV (st := []) X [tI 2, tR v5] (ci := 9) h35 (Nat.le_of_ble_eq_true rfl) q313 q314 q315 (c_Ta_addUntilFull x33 2 v5 h37) q316 q3 y_Ta_addUntilFull_ok rfl ⟨Nat.le_of_ble_eq_true rfl, Nat.le_of_ble_eq_true rfl⟩ (Nat.le_of_ble_eq_true rfl) ⟨Nat.le_of_ble_eq_true rfl, Nat.le_of_ble_eq_true rfl⟩ d_W_store_80 ?_
    refine r_if_eq (tgt := 90) X d_W_store_83 (by decide) (fun hc40 => ?_) (fun hc40 => ?_)
    · have hf := (if_pos hc40).symm.trans hf
      refine r_widen (kc2 := 0) (ks2 := 0) (Nat.le_of_ble_eq_true rfl) (Nat.le_of_ble_eq_true rfl) ?_
      refine r_sub [0, 1, 2, 3, 4] (lv' := [(0, tR v0), (1, tI v1), (2, tI v2), (3, tI v3), (4, tI v4)]) rfl ?_
      exact b_W_store_90 X hret hlk hnm n   v0 v1 v2 v3 v4 σ38 hf
    · have hf := (if_neg hc40).symm.trans hf
      refine r_aload_n X d_W_store_86 rfl 0 rfl ?_
      obtain ⟨x42, h41, hf⟩ := obind hf
      obtain ⟨σ44, h43, hf⟩ := obind hf
      refine r_callV (st := []) X [] (ci := 0) h41 (Nat.le_of_ble_eq_true rfl) q317 q319 sl3 (c_W_tidy n v0 h43) q320 q1 y_W_tidy_ok rfl ⟨Nat.le_of_ble_eq_true rfl, Nat.le_of_ble_eq_true rfl⟩ (Nat.le_of_ble_eq_true rfl) ⟨Nat.le_of_ble_eq_true rfl, Nat.le_of_ble_eq_true rfl⟩ d_W_store_87 ?_
      refine r_widen (kc2 := 0) (ks2 := 0) (Nat.le_of_ble_eq_true rfl) (Nat.le_of_ble_eq_true rfl) ?_
      refine r_sub [0, 1, 2, 3, 4] (lv' := [(0, tR v0), (1, tI v1), (2, tI v2), (3, tI v3), (4, tI v4)]) rfl ?_
      exact b_W_store_90 X hret hlk hnm n   v0 v1 v2 v3 v4 σ44 hf

def f_W_store (n : Nat) (v0 : Option Nat) (v1 : Int32) (v2 : Int32) (v3 : Int32) (v4 : Int32) (σ : Hp) : Option (Int32 × Hp) :=
  Option.bind (ld_R σ v0 0 0) fun x1 =>
  Option.bind (al_R σ 3 x1 v1) fun x3 =>
  if x3 = none then
  (
    f_W_store_61 n  v0 v1 v2 v3 v4 x3 σ)
  else
  (
    Option.bind (is_O σ v0 0) fun x46 =>
    pb (f_W_isSeen v0 x3 σ) fun x49 σ48 =>
    if x49 = 0 then
    (
      f_W_store_61 n  v0 v1 v2 v3 v4 x3 σ48)
    else
    (
      Option.bind (ld_R σ48 v0 0 5) fun x51 =>
      Option.bind (is_O σ48 x51 5) fun x54 =>
      Option.bind (f_Lo_add x51 x3 1 σ48) fun σ56 =>
      Option.bind (is_O σ56 v0 0) fun x58 =>
      Option.bind (f_W_fill v0 x3 v2 v3 v4 σ56) fun σ60 =>
      Option.bind (ld_R σ60 v0 0 4) fun x61 =>
      Option.bind (is_O σ60 x61 9) fun x64 =>
      pb (f_Ta_addUntilFull x61 1 x3 σ60) fun x67 σ66 =>
      if x67 = 0 then
      (
        some (1, σ66))
      else
      (
        Option.bind (is_O σ66 v0 0) fun x70 =>
        Option.bind (f_W_tidy n v0 σ66) fun σ72 =>
        some (1, σ72))))
set_option maxRecDepth 100000 in
theorem c_W_store {l : Launch} {DD : DT} (n : Nat) (v0 : Option Nat) (v1 : Int32) (v2 : Int32) (v3 : Int32) (v4 : Int32) {σ0 σz : Hp} {rz : Int32} (hf : f_W_store n v0 v1 v2 v3 v4 σ0 = some (rz, σz)) : CT l DD y_W_store prog_1_method_21_code 7 (some .boolean) rm_W_store [tR v0, tI v1, tI v2, tI v3, tI v4] σ0 (some (tI rz)) σz := by
  refine r_met (by decide) (Nat.le_of_ble_eq_true rfl) ?_
  intro p e s m args below meth c X hret hlk hnm
  unfold f_W_store at hf
  refine r_aload_n X d_W_store_0 rfl 0 rfl ?_
  obtain ⟨x1, h2, hf⟩ := obind hf
  refine r_ld_R (ci := 0) (k := 0) X h2 (Nat.le_of_ble_eq_true rfl) (Nat.le_of_ble_eq_true rfl) rfl rfl q221 d_W_store_1 ?_
  refine r_iload_n X d_W_store_4 rfl 1 rfl ?_
  obtain ⟨x3, h4, hf⟩ := obind hf
  refine r_al_E X h4 d_W_store_5 ?_
  refine r_astore (lv' := [(0, tR v0), (1, tI v1), (2, tI v2), (3, tI v3), (4, tI v4), (5, tR x3)]) X [1, 2, 3, 4, 5, 0] d_W_store_6 (Nat.le_of_ble_eq_true rfl) rfl ?_
  refine r_aload X d_W_store_8 5 rfl ?_
  refine r_ifnull (tgt := 61) X d_W_store_10 (by decide) (fun hc5 => ?_) (fun hc5 => ?_)
  · have hf := (if_pos hc5).symm.trans hf
    refine r_widen (kc2 := 0) (ks2 := 0) (Nat.le_of_ble_eq_true rfl) (Nat.le_of_ble_eq_true rfl) ?_
    refine r_sub [0, 1, 2, 3, 4, 5] (lv' := [(0, tR v0), (1, tI v1), (2, tI v2), (3, tI v3), (4, tI v4), (5, tR x3)]) rfl ?_
    exact b_W_store_61 X hret hlk hnm n   v0 v1 v2 v3 v4 x3 σ0 hf
  · have hf := (if_neg hc5).symm.trans hf
    refine r_aload_n X d_W_store_13 rfl 0 rfl ?_
    refine r_aload X d_W_store_14 5 rfl ?_
    obtain ⟨x46, h45, hf⟩ := obind hf
    obtain ⟨x49, σ48, h47, hf⟩ := pbind hf
    refine r_callV (st := []) X [tR x3] (ci := 0) h45 (Nat.le_of_ble_eq_true rfl) q297 q299 sl1 (c_W_isSeen v0 x3 h47) q300 q1 y_W_isSeen_ok rfl ⟨Nat.le_of_ble_eq_true rfl, Nat.le_of_ble_eq_true rfl⟩ (Nat.le_of_ble_eq_true rfl) ⟨Nat.le_of_ble_eq_true rfl, Nat.le_of_ble_eq_true rfl⟩ d_W_store_16 ?_
    refine r_if_eq (tgt := 61) X d_W_store_19 (by decide) (fun hc50 => ?_) (fun hc50 => ?_)
    · have hf := (if_pos hc50).symm.trans hf
      refine r_widen (kc2 := 0) (ks2 := 0) (Nat.le_of_ble_eq_true rfl) (Nat.le_of_ble_eq_true rfl) ?_
      refine r_sub [0, 1, 2, 3, 4, 5] (lv' := [(0, tR v0), (1, tI v1), (2, tI v2), (3, tI v3), (4, tI v4), (5, tR x3)]) rfl ?_
      exact b_W_store_61 X hret hlk hnm n   v0 v1 v2 v3 v4 x3 σ48 hf
    · have hf := (if_neg hc50).symm.trans hf
      refine r_aload_n X d_W_store_22 rfl 0 rfl ?_
      obtain ⟨x51, h52, hf⟩ := obind hf
      refine r_ld_R (ci := 0) (k := 5) X h52 (Nat.le_of_ble_eq_true rfl) (Nat.le_of_ble_eq_true rfl) rfl rfl q226 d_W_store_23 ?_
      refine r_aload X d_W_store_26 5 rfl ?_
      refine r_iconst (v := 1) X d_W_store_28 (by decide) ?_
      obtain ⟨x54, h53, hf⟩ := obind hf
      obtain ⟨σ56, h55, hf⟩ := obind hf
      refine r_callV (st := []) X [tR x3, tI 1] (ci := 5) h53 (Nat.le_of_ble_eq_true rfl) q309 q310 q311 (c_Lo_add x51 x3 1 h55) q312 q4 y_Lo_add_ok rfl ⟨Nat.le_of_ble_eq_true rfl, Nat.le_of_ble_eq_true rfl⟩ (Nat.le_of_ble_eq_true rfl) ⟨Nat.le_of_ble_eq_true rfl, Nat.le_of_ble_eq_true rfl⟩ d_W_store_29 ?_
      refine r_aload_n X d_W_store_32 rfl 0 rfl ?_
      refine r_aload X d_W_store_33 5 rfl ?_
      refine r_iload_n X d_W_store_35 rfl 2 rfl ?_
      refine r_iload_n X d_W_store_36 rfl 3 rfl ?_
      refine r_iload X d_W_store_37 4 rfl ?_
      obtain ⟨x58, h57, hf⟩ := obind hf
      obtain ⟨σ60, h59, hf⟩ := obind hf
      refine r_callV (st := []) X [tR x3, tI v2, tI v3, tI v4] (ci := 0) h57 (Nat.le_of_ble_eq_true rfl) q589 q591 sl15 (c_W_fill v0 x3 v2 v3 v4 h59) q592 q1 y_W_fill_ok rfl ⟨Nat.le_of_ble_eq_true rfl, Nat.le_of_ble_eq_true rfl⟩ (Nat.le_of_ble_eq_true rfl) ⟨Nat.le_of_ble_eq_true rfl, Nat.le_of_ble_eq_true rfl⟩ d_W_store_39 ?_
      refine r_aload_n X d_W_store_42 rfl 0 rfl ?_
      obtain ⟨x61, h62, hf⟩ := obind hf
      refine r_ld_R (ci := 0) (k := 4) X h62 (Nat.le_of_ble_eq_true rfl) (Nat.le_of_ble_eq_true rfl) rfl rfl q225 d_W_store_43 ?_
      refine r_iconst (v := 1) X d_W_store_46 (by decide) ?_
      refine r_aload X d_W_store_47 5 rfl ?_
      obtain ⟨x64, h63, hf⟩ := obind hf
      obtain ⟨x67, σ66, h65, hf⟩ := pbind hf
      refine r_callV (st := []) X [tI 1, tR x3] (ci := 9) h63 (Nat.le_of_ble_eq_true rfl) q313 q314 q315 (c_Ta_addUntilFull x61 1 x3 h65) q316 q3 y_Ta_addUntilFull_ok rfl ⟨Nat.le_of_ble_eq_true rfl, Nat.le_of_ble_eq_true rfl⟩ (Nat.le_of_ble_eq_true rfl) ⟨Nat.le_of_ble_eq_true rfl, Nat.le_of_ble_eq_true rfl⟩ d_W_store_49 ?_
      refine r_if_eq (tgt := 59) X d_W_store_52 (by decide) (fun hc68 => ?_) (fun hc68 => ?_)
      · have hf := (if_pos hc68).symm.trans hf
        refine r_iconst (v := 1) X d_W_store_59 (by decide) ?_
        cases hf
        refine r_widen (kc2 := rm_W_store.cells) (ks2 := rm_W_store.slots) (Nat.le_of_ble_eq_true rfl) (Nat.le_of_ble_eq_true rfl) ?_
        exact r_zret X hret hlk (by decide) d_W_store_60
      · have hf := (if_neg hc68).symm.trans hf
        refine r_aload_n X d_W_store_55 rfl 0 rfl ?_
        obtain ⟨x70, h69, hf⟩ := obind hf
        obtain ⟨σ72, h71, hf⟩ := obind hf
        refine r_callV (st := []) X [] (ci := 0) h69 (Nat.le_of_ble_eq_true rfl) q317 q319 sl3 (c_W_tidy n v0 h71) q320 q1 y_W_tidy_ok rfl ⟨Nat.le_of_ble_eq_true rfl, Nat.le_of_ble_eq_true rfl⟩ (Nat.le_of_ble_eq_true rfl) ⟨Nat.le_of_ble_eq_true rfl, Nat.le_of_ble_eq_true rfl⟩ d_W_store_56 ?_
        refine r_iconst (v := 1) X d_W_store_59 (by decide) ?_
        cases hf
        refine r_widen (kc2 := rm_W_store.cells) (ks2 := rm_W_store.slots) (Nat.le_of_ble_eq_true rfl) (Nat.le_of_ble_eq_true rfl) ?_
        exact r_zret X hret hlk (by decide) d_W_store_60

def f_W_isWelcome (v0 : Option Nat) (v1 : Option Nat) (v2 : Int32) (σ : Hp) : Option (Int32 × Hp) :=
  Option.bind (ld_R σ v0 0 0) fun x1 =>
  Option.bind (al_R σ 3 x1 v2) fun x3 =>
  Option.bind (ld_R σ v1 10 0) fun x5 =>
  if x5 = none then
  (
    Option.bind (is_O σ v0 0) fun x25 =>
    pb (f_W_isSeen v0 x3 σ) fun x28 σ27 =>
    if x28 = 0 then
    (
      some (1, σ27))
    else
    (
      some (0, σ27)))
  else
  (
    Option.bind (ld_R σ v1 10 0) fun x8 =>
    if x3 = x8 then
    (
      Option.bind (is_O σ v0 0) fun x12 =>
      pb (f_W_isSeen v0 x3 σ) fun x15 σ14 =>
      if x15 = 0 then
      (
        some (0, σ14))
      else
      (
        Option.bind (ld_R σ14 v1 10 0) fun x17 =>
        Option.bind (ld_I σ14 x17 3 3) fun x19 =>
        Option.bind (ld_I σ14 v1 10 1) fun x21 =>
        if x19 = x21 then
        (
          some (1, σ14))
        else
        (
          some (0, σ14))))
    else
    (
      some (0, σ)))
set_option maxRecDepth 100000 in
theorem c_W_isWelcome {l : Launch} {DD : DT} (v0 : Option Nat) (v1 : Option Nat) (v2 : Int32) {σ0 σz : Hp} {rz : Int32} (hf : f_W_isWelcome v0 v1 v2 σ0 = some (rz, σz)) : CT l DD y_W_isWelcome prog_1_method_20_code 4 (some .boolean) rm_W_isWelcome [tR v0, tR v1, tI v2] σ0 (some (tI rz)) σz := by
  refine r_met (by decide) (Nat.le_of_ble_eq_true rfl) ?_
  intro p e s m args below meth c X hret hlk hnm
  unfold f_W_isWelcome at hf
  refine r_aload_n X d_W_isWelcome_0 rfl 0 rfl ?_
  obtain ⟨x1, h2, hf⟩ := obind hf
  refine r_ld_R (ci := 0) (k := 0) X h2 (Nat.le_of_ble_eq_true rfl) (Nat.le_of_ble_eq_true rfl) rfl rfl q221 d_W_isWelcome_1 ?_
  refine r_iload_n X d_W_isWelcome_4 rfl 2 rfl ?_
  obtain ⟨x3, h4, hf⟩ := obind hf
  refine r_al_E X h4 d_W_isWelcome_5 ?_
  refine r_astore_n (lv' := [(0, tR v0), (1, tR v1), (3, tR x3)]) X [1, 2, 0] d_W_isWelcome_6 rfl (Nat.le_of_ble_eq_true rfl) rfl ?_
  refine r_aload_n X d_W_isWelcome_7 rfl 1 rfl ?_
  obtain ⟨x5, h6, hf⟩ := obind hf
  refine r_ld_R (ci := 10) (k := 0) X h6 (Nat.le_of_ble_eq_true rfl) (Nat.le_of_ble_eq_true rfl) rfl rfl q459 d_W_isWelcome_8 ?_
  refine r_ifnonnull (tgt := 28) X d_W_isWelcome_11 (by decide) (fun hc7 => ?_) (fun hc7 => ?_)
  · have hf := (if_neg hc7).symm.trans hf
    refine r_aload_n X d_W_isWelcome_28 rfl 2 rfl ?_
    refine r_aload_n X d_W_isWelcome_29 rfl 1 rfl ?_
    obtain ⟨x8, h9, hf⟩ := obind hf
    refine r_ld_R (ci := 10) (k := 0) X h9 (Nat.le_of_ble_eq_true rfl) (Nat.le_of_ble_eq_true rfl) rfl rfl q459 d_W_isWelcome_30 ?_
    refine r_acmp_ne (tgt := 62) X d_W_isWelcome_33 (by decide) (fun hc10 => ?_) (fun hc10 => ?_)
    · have hf := (if_neg hc10).symm.trans hf
      refine r_iconst (v := 0) X d_W_isWelcome_62 (by decide) ?_
      cases hf
      refine r_widen (kc2 := rm_W_isWelcome.cells) (ks2 := rm_W_isWelcome.slots) (Nat.le_of_ble_eq_true rfl) (Nat.le_of_ble_eq_true rfl) ?_
      exact r_zret X hret hlk (by decide) d_W_isWelcome_63
    · have hf := (if_pos hc10).symm.trans hf
      refine r_aload_n X d_W_isWelcome_36 rfl 0 rfl ?_
      refine r_aload_n X d_W_isWelcome_37 rfl 2 rfl ?_
      obtain ⟨x12, h11, hf⟩ := obind hf
      obtain ⟨x15, σ14, h13, hf⟩ := pbind hf
      refine r_callV (st := []) X [tR x3] (ci := 0) h11 (Nat.le_of_ble_eq_true rfl) q297 q299 sl1 (c_W_isSeen v0 x3 h13) q300 q1 y_W_isSeen_ok rfl ⟨Nat.le_of_ble_eq_true rfl, Nat.le_of_ble_eq_true rfl⟩ (Nat.le_of_ble_eq_true rfl) ⟨Nat.le_of_ble_eq_true rfl, Nat.le_of_ble_eq_true rfl⟩ d_W_isWelcome_38 ?_
      refine r_if_eq (tgt := 62) X d_W_isWelcome_41 (by decide) (fun hc16 => ?_) (fun hc16 => ?_)
      · have hf := (if_pos hc16).symm.trans hf
        refine r_iconst (v := 0) X d_W_isWelcome_62 (by decide) ?_
        cases hf
        refine r_widen (kc2 := rm_W_isWelcome.cells) (ks2 := rm_W_isWelcome.slots) (Nat.le_of_ble_eq_true rfl) (Nat.le_of_ble_eq_true rfl) ?_
        exact r_zret X hret hlk (by decide) d_W_isWelcome_63
      · have hf := (if_neg hc16).symm.trans hf
        refine r_aload_n X d_W_isWelcome_44 rfl 1 rfl ?_
        obtain ⟨x17, h18, hf⟩ := obind hf
        refine r_ld_R (ci := 10) (k := 0) X h18 (Nat.le_of_ble_eq_true rfl) (Nat.le_of_ble_eq_true rfl) rfl rfl q459 d_W_isWelcome_45 ?_
        obtain ⟨x19, h20, hf⟩ := obind hf
        refine r_ld_I (ci := 3) (k := 3) X h20 (Nat.le_of_ble_eq_true rfl) (Nat.le_of_ble_eq_true rfl) (Or.inl rfl) rfl q613 d_W_isWelcome_48 ?_
        refine r_aload_n X d_W_isWelcome_51 rfl 1 rfl ?_
        obtain ⟨x21, h22, hf⟩ := obind hf
        refine r_ld_I (ci := 10) (k := 1) X h22 (Nat.le_of_ble_eq_true rfl) (Nat.le_of_ble_eq_true rfl) (Or.inl rfl) rfl q461 d_W_isWelcome_52 ?_
        refine r_icmp_ne (tgt := 62) X d_W_isWelcome_55 (by decide) (fun hc23 => ?_) (fun hc23 => ?_)
        · have hf := (if_neg hc23).symm.trans hf
          refine r_iconst (v := 0) X d_W_isWelcome_62 (by decide) ?_
          cases hf
          refine r_widen (kc2 := rm_W_isWelcome.cells) (ks2 := rm_W_isWelcome.slots) (Nat.le_of_ble_eq_true rfl) (Nat.le_of_ble_eq_true rfl) ?_
          exact r_zret X hret hlk (by decide) d_W_isWelcome_63
        · have hf := (if_pos hc23).symm.trans hf
          refine r_iconst (v := 1) X d_W_isWelcome_58 (by decide) ?_
          refine r_goto (tgt := 63) X d_W_isWelcome_59 (by decide) ?_
          cases hf
          refine r_widen (kc2 := rm_W_isWelcome.cells) (ks2 := rm_W_isWelcome.slots) (Nat.le_of_ble_eq_true rfl) (Nat.le_of_ble_eq_true rfl) ?_
          exact r_zret X hret hlk (by decide) d_W_isWelcome_63
  · have hf := (if_pos hc7).symm.trans hf
    refine r_aload_n X d_W_isWelcome_14 rfl 0 rfl ?_
    refine r_aload_n X d_W_isWelcome_15 rfl 2 rfl ?_
    obtain ⟨x25, h24, hf⟩ := obind hf
    obtain ⟨x28, σ27, h26, hf⟩ := pbind hf
    refine r_callV (st := []) X [tR x3] (ci := 0) h24 (Nat.le_of_ble_eq_true rfl) q297 q299 sl1 (c_W_isSeen v0 x3 h26) q300 q1 y_W_isSeen_ok rfl ⟨Nat.le_of_ble_eq_true rfl, Nat.le_of_ble_eq_true rfl⟩ (Nat.le_of_ble_eq_true rfl) ⟨Nat.le_of_ble_eq_true rfl, Nat.le_of_ble_eq_true rfl⟩ d_W_isWelcome_16 ?_
    refine r_if_ne (tgt := 26) X d_W_isWelcome_19 (by decide) (fun hc29 => ?_) (fun hc29 => ?_)
    · have hf := (if_neg hc29).symm.trans hf
      refine r_iconst (v := 0) X d_W_isWelcome_26 (by decide) ?_
      cases hf
      refine r_widen (kc2 := rm_W_isWelcome.cells) (ks2 := rm_W_isWelcome.slots) (Nat.le_of_ble_eq_true rfl) (Nat.le_of_ble_eq_true rfl) ?_
      exact r_zret X hret hlk (by decide) d_W_isWelcome_27
    · have hf := (if_pos hc29).symm.trans hf
      refine r_iconst (v := 1) X d_W_isWelcome_22 (by decide) ?_
      refine r_goto (tgt := 27) X d_W_isWelcome_23 (by decide) ?_
      cases hf
      refine r_widen (kc2 := rm_W_isWelcome.cells) (ks2 := rm_W_isWelcome.slots) (Nat.le_of_ble_eq_true rfl) (Nat.le_of_ble_eq_true rfl) ?_
      exact r_zret X hret hlk (by decide) d_W_isWelcome_27

