def f_Rs_init (v0 : Option Nat) (v1 : Int32) (σ : Hp) : Option Hp :=
  Option.bind v0 fun x1 =>
  Option.bind (f_Ro_init (some (hp_N σ)) (nw_O σ 7)) fun σ4 =>
  Option.bind (st_R σ4 v0 8 1 (some (hp_N σ))) fun σ5 =>
  Option.bind (f_Ro_init (some (hp_N σ5)) (nw_O σ5 7)) fun σ8 =>
  Option.bind (st_R σ8 v0 8 2 (some (hp_N σ5))) fun σ9 =>
  Option.bind (f_Ro_init (some (hp_N σ9)) (nw_O σ9 7)) fun σ12 =>
  Option.bind (st_R σ12 v0 8 3 (some (hp_N σ9))) fun σ13 =>
  Option.bind (st_I σ13 v0 8 0 v1) fun σ15 =>
  Option.bind (st_I σ15 v0 8 4 (imax_ 1 (v1 / 100))) fun σ17 =>
  some σ17
set_option maxRecDepth 100000 in
theorem c_Rs_init {l : Launch} {DD : DT} (v0 : Option Nat) (v1 : Int32) {σ0 σz : Hp} (hf : f_Rs_init v0 v1 σ0 = some σz) : CT l DD y_Rs_init prog_9_method_1_code 2 none rm_Rs_init [tR v0, tI v1] σ0 none σz := by
  refine r_met (by decide) (Nat.le_of_ble_eq_true rfl) ?_
  intro p e s m args below meth c X hret hlk hnm
  unfold f_Rs_init at hf
  refine r_aload_n X d_Rs_init_0 rfl 0 rfl ?_
  obtain ⟨x1, h2, hf⟩ := obind hf
  refine r_objInit X h2 q137 q26 q27 (Nat.le_of_ble_eq_true rfl) (Nat.le_of_ble_eq_true rfl) d_Rs_init_1 ?_
  refine r_aload_n X d_Rs_init_4 rfl 0 rfl ?_
  refine r_new (ci := 7) X (Nat.le_of_ble_eq_true rfl) q138 q139 q9 (Nat.le_of_ble_eq_true rfl) (Nat.le_of_ble_eq_true rfl) d_Rs_init_5 ?_
  refine r_dup X d_Rs_init_8 rfl ?_
  obtain ⟨σ4, h3, hf⟩ := obind hf
  refine r_callIN (ret := none) (host := "WindowCache") (st := [tR (some (hp_N σ0)), tR v0]) X [] rfl (by decide) q141 rfl (c_Ro_init (some (hp_N σ0)) h3) q142 q9 y_Ro_init_ok rfl ⟨Nat.le_of_ble_eq_true rfl, Nat.le_of_ble_eq_true rfl⟩ (Nat.le_of_ble_eq_true rfl) ⟨Nat.le_of_ble_eq_true rfl, Nat.le_of_ble_eq_true rfl⟩ d_Rs_init_9 ?_
  obtain ⟨σ5, h6, hf⟩ := obind hf
  refine r_stF_R (ci := 8) (k := 1) X h6 (Nat.le_of_ble_eq_true rfl) (Nat.le_of_ble_eq_true rfl) rfl rfl rfl hnm rfl q164 d_Rs_init_12 ?_
  refine r_aload_n X d_Rs_init_15 rfl 0 rfl ?_
  refine r_new (ci := 7) X (Nat.le_of_ble_eq_true rfl) q138 q139 q9 (Nat.le_of_ble_eq_true rfl) (Nat.le_of_ble_eq_true rfl) d_Rs_init_16 ?_
  refine r_dup X d_Rs_init_19 rfl ?_
  obtain ⟨σ8, h7, hf⟩ := obind hf
  refine r_callIN (ret := none) (host := "WindowCache") (st := [tR (some (hp_N σ5)), tR v0]) X [] rfl (by decide) q141 rfl (c_Ro_init (some (hp_N σ5)) h7) q142 q9 y_Ro_init_ok rfl ⟨Nat.le_of_ble_eq_true rfl, Nat.le_of_ble_eq_true rfl⟩ (Nat.le_of_ble_eq_true rfl) ⟨Nat.le_of_ble_eq_true rfl, Nat.le_of_ble_eq_true rfl⟩ d_Rs_init_20 ?_
  obtain ⟨σ9, h10, hf⟩ := obind hf
  refine r_stF_R (ci := 8) (k := 2) X h10 (Nat.le_of_ble_eq_true rfl) (Nat.le_of_ble_eq_true rfl) rfl rfl rfl hnm rfl q166 d_Rs_init_23 ?_
  refine r_aload_n X d_Rs_init_26 rfl 0 rfl ?_
  refine r_new (ci := 7) X (Nat.le_of_ble_eq_true rfl) q138 q139 q9 (Nat.le_of_ble_eq_true rfl) (Nat.le_of_ble_eq_true rfl) d_Rs_init_27 ?_
  refine r_dup X d_Rs_init_30 rfl ?_
  obtain ⟨σ12, h11, hf⟩ := obind hf
  refine r_callIN (ret := none) (host := "WindowCache") (st := [tR (some (hp_N σ9)), tR v0]) X [] rfl (by decide) q141 rfl (c_Ro_init (some (hp_N σ9)) h11) q142 q9 y_Ro_init_ok rfl ⟨Nat.le_of_ble_eq_true rfl, Nat.le_of_ble_eq_true rfl⟩ (Nat.le_of_ble_eq_true rfl) ⟨Nat.le_of_ble_eq_true rfl, Nat.le_of_ble_eq_true rfl⟩ d_Rs_init_31 ?_
  obtain ⟨σ13, h14, hf⟩ := obind hf
  refine r_stF_R (ci := 8) (k := 3) X h14 (Nat.le_of_ble_eq_true rfl) (Nat.le_of_ble_eq_true rfl) rfl rfl rfl hnm rfl q168 d_Rs_init_34 ?_
  refine r_aload_n X d_Rs_init_37 rfl 0 rfl ?_
  refine r_iload_n X d_Rs_init_38 rfl 1 rfl ?_
  obtain ⟨σ15, h16, hf⟩ := obind hf
  refine r_stF_I (ci := 8) (k := 0) X h16 (Nat.le_of_ble_eq_true rfl) (Nat.le_of_ble_eq_true rfl) rfl rfl rfl hnm rfl q162 d_Rs_init_39 ?_
  refine r_aload_n X d_Rs_init_42 rfl 0 rfl ?_
  refine r_iconst (v := 1) X d_Rs_init_43 (by decide) ?_
  refine r_iload_n X d_Rs_init_44 rfl 1 rfl ?_
  refine r_bipush (v := 100) X d_Rs_init_45 (by decide) ?_
  refine r_idiv X d_Rs_init_47 (by decide) ?_
  refine r_mmax X q161 q96 q5 q97 (Nat.le_of_ble_eq_true rfl) (Nat.le_of_ble_eq_true rfl) (Nat.le_of_ble_eq_true rfl) (Nat.le_of_ble_eq_true rfl) d_Rs_init_48 ?_
  obtain ⟨σ17, h18, hf⟩ := obind hf
  refine r_st_I (ci := 8) (k := 4) X h18 (Nat.le_of_ble_eq_true rfl) (Nat.le_of_ble_eq_true rfl) rfl rfl rfl q170 d_Rs_init_51 ?_
  cases hf
  refine r_widen (kc2 := rm_Rs_init.cells) (ks2 := rm_Rs_init.slots) (Nat.le_of_ble_eq_true rfl) (Nat.le_of_ble_eq_true rfl) ?_
  exact r_vret X hret hlk d_Rs_init_54

def f_Rs_trimShielded_22 (n : Nat)  : Nat → Option Nat → Int32 → Int32 → Hp → Option Hp
  | 0, _, _, _, _ => none
  | i + 1, v0, v1, v2, σ =>
    if v2 ≤ 0 then
    (
      some σ)
    else
    (
      Option.bind (ld_R σ v0 8 3) fun x10 =>
      Option.bind (ld_I σ x10 7 2) fun x12 =>
      if x12 ≤ v1 then
      (
        some σ)
      else
      (
        Option.bind (ld_R σ v0 8 3) fun x15 =>
        Option.bind (ld_R σ x15 7 0) fun x17 =>
        if x17 = none then
        (
          some σ)
        else
        (
          Option.bind (ld_R σ v0 8 3) fun x20 =>
          Option.bind (is_O σ x20 7) fun x23 =>
          Option.bind (f_Ro_cutOut x20 x17 σ) fun σ25 =>
          Option.bind (ld_R σ25 v0 8 2) fun x26 =>
          Option.bind (is_O σ25 x26 7) fun x29 =>
          Option.bind (f_Ro_addLatest x26 x17 σ25) fun σ31 =>
          f_Rs_trimShielded_22 n i v0 v1 (v2 + (-1)) σ31)))
set_option maxRecDepth 100000 in
theorem b_Rs_trimShielded_22 {p : Program} {l : Launch} {e : Env} {s : State} {m : MethodId} {args : Array Value} {below : List Frame} {meth : Method} {c : Code} {DD : DT} {σ0 σz : Hp} (X : CX p s m args c prog_9_method_6_code 4 (dm σ0) DD y_Rs_trimShielded.cls) (hret : meth.sig.returnType = none) (hlk : meth.locks = false) (hnm : meth.name = y_Rs_trimShielded.name) (n : Nat)   : ∀ (i : Nat) (v0 : Option Nat) (v1 : Int32) (v2 : Int32) (σ : Hp) (hf : f_Rs_trimShielded_22 n  i v0 v1 v2 σ = some σz), GG p l e rm_Rs_trimShielded s m args below meth c 4 (dm σ0) DD (MQ below (Post DD σ0 none σz) args s rm_Rs_trimShielded.cells rm_Rs_trimShielded.slots (dm σ0)) 0 0 σ 22 [(0, tR v0), (1, tI v1), (2, tI v2)] [] := by
  intro i
  induction i with
  | zero => intro v0 v1 v2 σ hf; cases hf
  | succ i ih =>
    intro v0 v1 v2 σ hf
    simp only [f_Rs_trimShielded_22] at hf
    refine r_iload_n X d_Rs_trimShielded_22 rfl 2 rfl ?_
    refine r_if_le (tgt := 72) X d_Rs_trimShielded_23 (by decide) (fun hc9 => ?_) (fun hc9 => ?_)
    · have hf := (if_pos hc9).symm.trans hf
      cases hf
      refine r_widen (kc2 := rm_Rs_trimShielded.cells) (ks2 := rm_Rs_trimShielded.slots) (Nat.le_of_ble_eq_true rfl) (Nat.le_of_ble_eq_true rfl) ?_
      exact r_vret X hret hlk d_Rs_trimShielded_72
    · have hf := (if_neg hc9).symm.trans hf
      refine r_aload_n X d_Rs_trimShielded_26 rfl 0 rfl ?_
      obtain ⟨x10, h11, hf⟩ := obind hf
      refine r_ld_R (ci := 8) (k := 3) X h11 (Nat.le_of_ble_eq_true rfl) (Nat.le_of_ble_eq_true rfl) rfl rfl q168 d_Rs_trimShielded_27 ?_
      obtain ⟨x12, h13, hf⟩ := obind hf
      refine r_ld_I (ci := 7) (k := 2) X h13 (Nat.le_of_ble_eq_true rfl) (Nat.le_of_ble_eq_true rfl) (Or.inl rfl) rfl q147 d_Rs_trimShielded_30 ?_
      refine r_iload_n X d_Rs_trimShielded_33 rfl 1 rfl ?_
      refine r_icmp_le (tgt := 72) X d_Rs_trimShielded_34 (by decide) (fun hc14 => ?_) (fun hc14 => ?_)
      · have hf := (if_pos hc14).symm.trans hf
        cases hf
        refine r_widen (kc2 := rm_Rs_trimShielded.cells) (ks2 := rm_Rs_trimShielded.slots) (Nat.le_of_ble_eq_true rfl) (Nat.le_of_ble_eq_true rfl) ?_
        exact r_vret X hret hlk d_Rs_trimShielded_72
      · have hf := (if_neg hc14).symm.trans hf
        refine r_aload_n X d_Rs_trimShielded_37 rfl 0 rfl ?_
        obtain ⟨x15, h16, hf⟩ := obind hf
        refine r_ld_R (ci := 8) (k := 3) X h16 (Nat.le_of_ble_eq_true rfl) (Nat.le_of_ble_eq_true rfl) rfl rfl q168 d_Rs_trimShielded_38 ?_
        obtain ⟨x17, h18, hf⟩ := obind hf
        refine r_ld_R (ci := 7) (k := 0) X h18 (Nat.le_of_ble_eq_true rfl) (Nat.le_of_ble_eq_true rfl) rfl rfl q145 d_Rs_trimShielded_41 ?_
        refine r_astore_n (lv' := [(0, tR v0), (1, tI v1), (2, tI v2), (3, tR x17)]) X [1, 2, 3, 0] d_Rs_trimShielded_44 rfl (Nat.le_of_ble_eq_true rfl) rfl ?_
        refine r_aload_n X d_Rs_trimShielded_45 rfl 3 rfl ?_
        refine r_ifnonnull (tgt := 50) X d_Rs_trimShielded_46 (by decide) (fun hc19 => ?_) (fun hc19 => ?_)
        · have hf := (if_neg hc19).symm.trans hf
          refine r_aload_n X d_Rs_trimShielded_50 rfl 0 rfl ?_
          obtain ⟨x20, h21, hf⟩ := obind hf
          refine r_ld_R (ci := 8) (k := 3) X h21 (Nat.le_of_ble_eq_true rfl) (Nat.le_of_ble_eq_true rfl) rfl rfl q168 d_Rs_trimShielded_51 ?_
          refine r_aload_n X d_Rs_trimShielded_54 rfl 3 rfl ?_
          obtain ⟨x23, h22, hf⟩ := obind hf
          obtain ⟨σ25, h24, hf⟩ := obind hf
          refine r_callV (st := []) X [tR x17] (ci := 7) h22 (Nat.le_of_ble_eq_true rfl) q351 q352 q353 (c_Ro_cutOut x20 x17 h24) q354 q9 y_Ro_cutOut_ok rfl ⟨Nat.le_of_ble_eq_true rfl, Nat.le_of_ble_eq_true rfl⟩ (Nat.le_of_ble_eq_true rfl) ⟨Nat.le_of_ble_eq_true rfl, Nat.le_of_ble_eq_true rfl⟩ d_Rs_trimShielded_55 ?_
          refine r_aload_n X d_Rs_trimShielded_58 rfl 0 rfl ?_
          obtain ⟨x26, h27, hf⟩ := obind hf
          refine r_ld_R (ci := 8) (k := 2) X h27 (Nat.le_of_ble_eq_true rfl) (Nat.le_of_ble_eq_true rfl) rfl rfl q166 d_Rs_trimShielded_59 ?_
          refine r_aload_n X d_Rs_trimShielded_62 rfl 3 rfl ?_
          obtain ⟨x29, h28, hf⟩ := obind hf
          obtain ⟨σ31, h30, hf⟩ := obind hf
          refine r_callV (st := []) X [tR x17] (ci := 7) h28 (Nat.le_of_ble_eq_true rfl) q355 q356 q357 (c_Ro_addLatest x26 x17 h30) q358 q9 y_Ro_addLatest_ok rfl ⟨Nat.le_of_ble_eq_true rfl, Nat.le_of_ble_eq_true rfl⟩ (Nat.le_of_ble_eq_true rfl) ⟨Nat.le_of_ble_eq_true rfl, Nat.le_of_ble_eq_true rfl⟩ d_Rs_trimShielded_63 ?_
          refine r_iinc (lv' := [(0, tR v0), (1, tI v1), (2, tI (v2 + (-1))), (3, tR x17)]) (j := 2) X [1, 2, 0, 3] d_Rs_trimShielded_66 rfl rfl (Nat.le_of_ble_eq_true rfl) rfl ?_
          refine r_goto (tgt := 22) X d_Rs_trimShielded_69 (by decide) ?_
          refine r_widen (kc2 := 0) (ks2 := 0) (Nat.le_of_ble_eq_true rfl) (Nat.le_of_ble_eq_true rfl) ?_
          refine r_sub [0, 1, 2] (lv' := [(0, tR v0), (1, tI v1), (2, tI (v2 + (-1)))]) rfl ?_
          exact ih v0 v1 (v2 + (-1)) σ31 hf
        · have hf := (if_pos hc19).symm.trans hf
          cases hf
          refine r_widen (kc2 := rm_Rs_trimShielded.cells) (ks2 := rm_Rs_trimShielded.slots) (Nat.le_of_ble_eq_true rfl) (Nat.le_of_ble_eq_true rfl) ?_
          exact r_vret X hret hlk d_Rs_trimShielded_49

def f_Rs_trimShielded (n : Nat) (v0 : Option Nat) (σ : Hp) : Option Hp :=
  Option.bind (ld_I σ v0 8 0) fun x1 =>
  Option.bind (ld_I σ v0 8 4) fun x3 =>
  Option.bind (ld_R σ v0 8 3) fun x5 =>
  Option.bind (ld_I σ x5 7 3) fun x7 =>
  f_Rs_trimShielded_22 n  n v0 (((x1 - x3) * 4) / 5) x7 σ
set_option maxRecDepth 100000 in
theorem c_Rs_trimShielded {l : Launch} {DD : DT} (n : Nat) (v0 : Option Nat) {σ0 σz : Hp} (hf : f_Rs_trimShielded n v0 σ0 = some σz) : CT l DD y_Rs_trimShielded prog_9_method_6_code 4 none rm_Rs_trimShielded [tR v0] σ0 none σz := by
  refine r_met (by decide) (Nat.le_of_ble_eq_true rfl) ?_
  intro p e s m args below meth c X hret hlk hnm
  unfold f_Rs_trimShielded at hf
  refine r_aload_n X d_Rs_trimShielded_0 rfl 0 rfl ?_
  obtain ⟨x1, h2, hf⟩ := obind hf
  refine r_ld_I (ci := 8) (k := 0) X h2 (Nat.le_of_ble_eq_true rfl) (Nat.le_of_ble_eq_true rfl) (Or.inl rfl) rfl q162 d_Rs_trimShielded_1 ?_
  refine r_aload_n X d_Rs_trimShielded_4 rfl 0 rfl ?_
  obtain ⟨x3, h4, hf⟩ := obind hf
  refine r_ld_I (ci := 8) (k := 4) X h4 (Nat.le_of_ble_eq_true rfl) (Nat.le_of_ble_eq_true rfl) (Or.inl rfl) rfl q170 d_Rs_trimShielded_5 ?_
  refine r_isub X d_Rs_trimShielded_8 ?_
  refine r_iconst (v := 4) X d_Rs_trimShielded_9 (by decide) ?_
  refine r_imul X d_Rs_trimShielded_10 ?_
  refine r_iconst (v := 5) X d_Rs_trimShielded_11 (by decide) ?_
  refine r_idiv X d_Rs_trimShielded_12 (by decide) ?_
  refine r_istore_n (lv' := [(0, tR v0), (1, tI (((x1 - x3) * 4) / 5))]) X [1, 0] d_Rs_trimShielded_13 rfl (Nat.le_of_ble_eq_true rfl) rfl ?_
  refine r_aload_n X d_Rs_trimShielded_14 rfl 0 rfl ?_
  obtain ⟨x5, h6, hf⟩ := obind hf
  refine r_ld_R (ci := 8) (k := 3) X h6 (Nat.le_of_ble_eq_true rfl) (Nat.le_of_ble_eq_true rfl) rfl rfl q168 d_Rs_trimShielded_15 ?_
  obtain ⟨x7, h8, hf⟩ := obind hf
  refine r_ld_I (ci := 7) (k := 3) X h8 (Nat.le_of_ble_eq_true rfl) (Nat.le_of_ble_eq_true rfl) (Or.inl rfl) rfl q151 d_Rs_trimShielded_18 ?_
  refine r_istore_n (lv' := [(0, tR v0), (1, tI (((x1 - x3) * 4) / 5)), (2, tI x7)]) X [1, 2, 0] d_Rs_trimShielded_21 rfl (Nat.le_of_ble_eq_true rfl) rfl ?_
  refine r_widen (kc2 := 0) (ks2 := 0) (Nat.le_of_ble_eq_true rfl) (Nat.le_of_ble_eq_true rfl) ?_
  refine r_sub [0, 1, 2] (lv' := [(0, tR v0), (1, tI (((x1 - x3) * 4) / 5)), (2, tI x7)]) rfl ?_
  exact b_Rs_trimShielded_22 X hret hlk hnm n   n v0 (((x1 - x3) * 4) / 5) x7 σ0 hf

def f_Rs_touch_31 (n : Nat)  (v0 : Option Nat) (v1 : Option Nat) (w0 : Option Nat) (σ : Hp) : Option Hp :=
  Option.bind (is_O σ w0 7) fun x12 =>
  Option.bind (f_Ro_addLatest w0 v1 σ) fun σ14 =>
  Option.bind (is_O σ14 v0 8) fun x16 =>
  Option.bind (f_Rs_trimShielded n v0 σ14) fun σ18 =>
  some σ18
set_option maxRecDepth 100000 in
theorem b_Rs_touch_31 {p : Program} {l : Launch} {e : Env} {s : State} {m : MethodId} {args : Array Value} {below : List Frame} {meth : Method} {c : Code} {DD : DT} {σ0 σz : Hp} (X : CX p s m args c prog_9_method_5_code 4 (dm σ0) DD y_Rs_touch.cls) (hret : meth.sig.returnType = none) (hlk : meth.locks = false) (hnm : meth.name = y_Rs_touch.name) (n : Nat)   (v0 : Option Nat) (v1 : Option Nat) (w0 : Option Nat) (σ : Hp) (hf : f_Rs_touch_31 n  v0 v1 w0 σ = some σz) : GG p l e rm_Rs_touch s m args below meth c 4 (dm σ0) DD (MQ below (Post DD σ0 none σz) args s rm_Rs_touch.cells rm_Rs_touch.slots (dm σ0)) 0 0 σ 31 [(0, tR v0), (1, tR v1)] [tR w0] := by
  unfold f_Rs_touch_31 at hf
  refine r_astore_n (lv' := [(0, tR v0), (1, tR v1), (3, tR w0)]) X [1, 2, 0] d_Rs_touch_31 rfl (Nat.le_of_ble_eq_true rfl) rfl ?_
  refine r_aload_n X d_Rs_touch_32 rfl 2 rfl ?_
  refine r_aload_n X d_Rs_touch_33 rfl 1 rfl ?_
  obtain ⟨x12, h11, hf⟩ := obind hf
  obtain ⟨σ14, h13, hf⟩ := obind hf
  refine r_callV (st := []) X [tR v1] (ci := 7) h11 (Nat.le_of_ble_eq_true rfl) q355 q356 q357 (c_Ro_addLatest w0 v1 h13) q358 q9 y_Ro_addLatest_ok rfl ⟨Nat.le_of_ble_eq_true rfl, Nat.le_of_ble_eq_true rfl⟩ (Nat.le_of_ble_eq_true rfl) ⟨Nat.le_of_ble_eq_true rfl, Nat.le_of_ble_eq_true rfl⟩ d_Rs_touch_34 ?_
  refine r_aload_n X d_Rs_touch_37 rfl 0 rfl ?_
  obtain ⟨x16, h15, hf⟩ := obind hf
  obtain ⟨σ18, h17, hf⟩ := obind hf
  refine r_callV (st := []) X [] (ci := 8) h15 (Nat.le_of_ble_eq_true rfl) q359 q360 q361 (c_Rs_trimShielded n v0 h17) q362 q8 y_Rs_trimShielded_ok rfl ⟨Nat.le_of_ble_eq_true rfl, Nat.le_of_ble_eq_true rfl⟩ (Nat.le_of_ble_eq_true rfl) ⟨Nat.le_of_ble_eq_true rfl, Nat.le_of_ble_eq_true rfl⟩ d_Rs_touch_38 ?_
  cases hf
  refine r_widen (kc2 := rm_Rs_touch.cells) (ks2 := rm_Rs_touch.slots) (Nat.le_of_ble_eq_true rfl) (Nat.le_of_ble_eq_true rfl) ?_
  exact r_vret X hret hlk d_Rs_touch_41

def f_Rs_touch (n : Nat) (v0 : Option Nat) (v1 : Option Nat) (σ : Hp) : Option Hp :=
  Option.bind (ld_R σ v1 3 8) fun x1 =>
  if x1 = none then
  (
    some σ)
  else
  (
    Option.bind (is_O σ x1 7) fun x5 =>
    Option.bind (f_Ro_cutOut x1 v1 σ) fun σ7 =>
    Option.bind (ld_R σ7 v0 8 2) fun x8 =>
    if x1 = x8 then
    (
      Option.bind (ld_R σ7 v0 8 3) fun x19 =>
      f_Rs_touch_31 n  v0 v1 x19 σ7)
    else
    (
      f_Rs_touch_31 n  v0 v1 x1 σ7))
set_option maxRecDepth 100000 in
theorem c_Rs_touch {l : Launch} {DD : DT} (n : Nat) (v0 : Option Nat) (v1 : Option Nat) {σ0 σz : Hp} (hf : f_Rs_touch n v0 v1 σ0 = some σz) : CT l DD y_Rs_touch prog_9_method_5_code 4 none rm_Rs_touch [tR v0, tR v1] σ0 none σz := by
  refine r_met (by decide) (Nat.le_of_ble_eq_true rfl) ?_
  intro p e s m args below meth c X hret hlk hnm
  unfold f_Rs_touch at hf
  refine r_aload_n X d_Rs_touch_0 rfl 1 rfl ?_
  obtain ⟨x1, h2, hf⟩ := obind hf
  refine r_ld_R (ci := 3) (k := 8) X h2 (Nat.le_of_ble_eq_true rfl) (Nat.le_of_ble_eq_true rfl) rfl rfl q620 d_Rs_touch_1 ?_
  refine r_astore_n (lv' := [(0, tR v0), (1, tR v1), (2, tR x1)]) X [1, 2, 0] d_Rs_touch_4 rfl (Nat.le_of_ble_eq_true rfl) rfl ?_
  refine r_aload_n X d_Rs_touch_5 rfl 2 rfl ?_
  refine r_ifnonnull (tgt := 10) X d_Rs_touch_6 (by decide) (fun hc3 => ?_) (fun hc3 => ?_)
  · have hf := (if_neg hc3).symm.trans hf
    refine r_aload_n X d_Rs_touch_10 rfl 2 rfl ?_
    refine r_aload_n X d_Rs_touch_11 rfl 1 rfl ?_
    obtain ⟨x5, h4, hf⟩ := obind hf
    obtain ⟨σ7, h6, hf⟩ := obind hf
    refine r_callV (st := []) X [tR v1] (ci := 7) h4 (Nat.le_of_ble_eq_true rfl) q351 q352 q353 (c_Ro_cutOut x1 v1 h6) q354 q9 y_Ro_cutOut_ok rfl ⟨Nat.le_of_ble_eq_true rfl, Nat.le_of_ble_eq_true rfl⟩ (Nat.le_of_ble_eq_true rfl) ⟨Nat.le_of_ble_eq_true rfl, Nat.le_of_ble_eq_true rfl⟩ d_Rs_touch_12 ?_
    refine r_aload_n X d_Rs_touch_15 rfl 2 rfl ?_
    refine r_aload_n X d_Rs_touch_16 rfl 0 rfl ?_
    obtain ⟨x8, h9, hf⟩ := obind hf
    refine r_ld_R (ci := 8) (k := 2) X h9 (Nat.le_of_ble_eq_true rfl) (Nat.le_of_ble_eq_true rfl) rfl rfl q166 d_Rs_touch_17 ?_
    refine r_acmp_ne (tgt := 30) X d_Rs_touch_20 (by decide) (fun hc10 => ?_) (fun hc10 => ?_)
    · have hf := (if_neg hc10).symm.trans hf
      refine r_aload_n X d_Rs_touch_30 rfl 2 rfl ?_
      refine r_widen (kc2 := 0) (ks2 := 0) (Nat.le_of_ble_eq_true rfl) (Nat.le_of_ble_eq_true rfl) ?_
      refine r_sub [0, 1] (lv' := [(0, tR v0), (1, tR v1)]) rfl ?_
      exact b_Rs_touch_31 X hret hlk hnm n   v0 v1 x1 σ7 hf
    · have hf := (if_pos hc10).symm.trans hf
      refine r_aload_n X d_Rs_touch_23 rfl 0 rfl ?_
      obtain ⟨x19, h20, hf⟩ := obind hf
      refine r_ld_R (ci := 8) (k := 3) X h20 (Nat.le_of_ble_eq_true rfl) (Nat.le_of_ble_eq_true rfl) rfl rfl q168 d_Rs_touch_24 ?_
      refine r_goto (tgt := 31) X d_Rs_touch_27 (by decide) ?_
      refine r_widen (kc2 := 0) (ks2 := 0) (Nat.le_of_ble_eq_true rfl) (Nat.le_of_ble_eq_true rfl) ?_
      refine r_sub [0, 1] (lv' := [(0, tR v0), (1, tR v1)]) rfl ?_
      exact b_Rs_touch_31 X hret hlk hnm n   v0 v1 x19 σ7 hf
  · have hf := (if_pos hc3).symm.trans hf
    cases hf
    refine r_widen (kc2 := rm_Rs_touch.cells) (ks2 := rm_Rs_touch.slots) (Nat.le_of_ble_eq_true rfl) (Nat.le_of_ble_eq_true rfl) ?_
    exact r_vret X hret hlk d_Rs_touch_9

def f_Rs_takeOut (v0 : Option Nat) (v1 : Option Nat) (σ : Hp) : Option Hp :=
  Option.bind (ld_R σ v1 3 8) fun x1 =>
  if x1 = none then
  (
    some σ)
  else
  (
    Option.bind (ld_R σ v1 3 8) fun x4 =>
    Option.bind (is_O σ x4 7) fun x7 =>
    Option.bind (f_Ro_cutOut x4 v1 σ) fun σ9 =>
    some σ9)
set_option maxRecDepth 100000 in
theorem c_Rs_takeOut {l : Launch} {DD : DT} (v0 : Option Nat) (v1 : Option Nat) {σ0 σz : Hp} (hf : f_Rs_takeOut v0 v1 σ0 = some σz) : CT l DD y_Rs_takeOut prog_9_method_4_code 2 none rm_Rs_takeOut [tR v0, tR v1] σ0 none σz := by
  refine r_met (by decide) (Nat.le_of_ble_eq_true rfl) ?_
  intro p e s m args below meth c X hret hlk hnm
  unfold f_Rs_takeOut at hf
  refine r_aload_n X d_Rs_takeOut_0 rfl 1 rfl ?_
  obtain ⟨x1, h2, hf⟩ := obind hf
  refine r_ld_R (ci := 3) (k := 8) X h2 (Nat.le_of_ble_eq_true rfl) (Nat.le_of_ble_eq_true rfl) rfl rfl q620 d_Rs_takeOut_1 ?_
  refine r_ifnull (tgt := 15) X d_Rs_takeOut_4 (by decide) (fun hc3 => ?_) (fun hc3 => ?_)
  · have hf := (if_pos hc3).symm.trans hf
    cases hf
    refine r_widen (kc2 := rm_Rs_takeOut.cells) (ks2 := rm_Rs_takeOut.slots) (Nat.le_of_ble_eq_true rfl) (Nat.le_of_ble_eq_true rfl) ?_
    exact r_vret X hret hlk d_Rs_takeOut_15
  · have hf := (if_neg hc3).symm.trans hf
    refine r_aload_n X d_Rs_takeOut_7 rfl 1 rfl ?_
    obtain ⟨x4, h5, hf⟩ := obind hf
    refine r_ld_R (ci := 3) (k := 8) X h5 (Nat.le_of_ble_eq_true rfl) (Nat.le_of_ble_eq_true rfl) rfl rfl q620 d_Rs_takeOut_8 ?_
    refine r_aload_n X d_Rs_takeOut_11 rfl 1 rfl ?_
    obtain ⟨x7, h6, hf⟩ := obind hf
    obtain ⟨σ9, h8, hf⟩ := obind hf
    refine r_callV (st := []) X [tR v1] (ci := 7) h6 (Nat.le_of_ble_eq_true rfl) q351 q352 q353 (c_Ro_cutOut x4 v1 h8) q354 q9 y_Ro_cutOut_ok rfl ⟨Nat.le_of_ble_eq_true rfl, Nat.le_of_ble_eq_true rfl⟩ (Nat.le_of_ble_eq_true rfl) ⟨Nat.le_of_ble_eq_true rfl, Nat.le_of_ble_eq_true rfl⟩ d_Rs_takeOut_12 ?_
    cases hf
    refine r_widen (kc2 := rm_Rs_takeOut.cells) (ks2 := rm_Rs_takeOut.slots) (Nat.le_of_ble_eq_true rfl) (Nat.le_of_ble_eq_true rfl) ?_
    exact r_vret X hret hlk d_Rs_takeOut_15

def f_Rs_size (v0 : Option Nat) (σ : Hp) : Option (Int32 × Hp) :=
  Option.bind (ld_R σ v0 8 1) fun x1 =>
  Option.bind (ld_I σ x1 7 3) fun x3 =>
  Option.bind (ld_R σ v0 8 2) fun x5 =>
  Option.bind (ld_I σ x5 7 3) fun x7 =>
  Option.bind (ld_R σ v0 8 3) fun x9 =>
  Option.bind (ld_I σ x9 7 3) fun x11 =>
  some ((x3 + x7) + x11, σ)
set_option maxRecDepth 100000 in
theorem c_Rs_size {l : Launch} {DD : DT} (v0 : Option Nat) {σ0 σz : Hp} {rz : Int32} (hf : f_Rs_size v0 σ0 = some (rz, σz)) : CT l DD y_Rs_size prog_9_method_3_code 1 (some .int) rm_Rs_size [tR v0] σ0 (some (tI rz)) σz := by
  refine r_met (by decide) (Nat.le_of_ble_eq_true rfl) ?_
  intro p e s m args below meth c X hret hlk hnm
  unfold f_Rs_size at hf
  refine r_aload_n X d_Rs_size_0 rfl 0 rfl ?_
  obtain ⟨x1, h2, hf⟩ := obind hf
  refine r_ld_R (ci := 8) (k := 1) X h2 (Nat.le_of_ble_eq_true rfl) (Nat.le_of_ble_eq_true rfl) rfl rfl q164 d_Rs_size_1 ?_
  obtain ⟨x3, h4, hf⟩ := obind hf
  refine r_ld_I (ci := 7) (k := 3) X h4 (Nat.le_of_ble_eq_true rfl) (Nat.le_of_ble_eq_true rfl) (Or.inl rfl) rfl q151 d_Rs_size_4 ?_
  refine r_aload_n X d_Rs_size_7 rfl 0 rfl ?_
  obtain ⟨x5, h6, hf⟩ := obind hf
  refine r_ld_R (ci := 8) (k := 2) X h6 (Nat.le_of_ble_eq_true rfl) (Nat.le_of_ble_eq_true rfl) rfl rfl q166 d_Rs_size_8 ?_
  obtain ⟨x7, h8, hf⟩ := obind hf
  refine r_ld_I (ci := 7) (k := 3) X h8 (Nat.le_of_ble_eq_true rfl) (Nat.le_of_ble_eq_true rfl) (Or.inl rfl) rfl q151 d_Rs_size_11 ?_
  refine r_iadd X d_Rs_size_14 ?_
  refine r_aload_n X d_Rs_size_15 rfl 0 rfl ?_
  obtain ⟨x9, h10, hf⟩ := obind hf
  refine r_ld_R (ci := 8) (k := 3) X h10 (Nat.le_of_ble_eq_true rfl) (Nat.le_of_ble_eq_true rfl) rfl rfl q168 d_Rs_size_16 ?_
  obtain ⟨x11, h12, hf⟩ := obind hf
  refine r_ld_I (ci := 7) (k := 3) X h12 (Nat.le_of_ble_eq_true rfl) (Nat.le_of_ble_eq_true rfl) (Or.inl rfl) rfl q151 d_Rs_size_19 ?_
  refine r_iadd X d_Rs_size_22 ?_
  cases hf
  refine r_widen (kc2 := rm_Rs_size.cells) (ks2 := rm_Rs_size.slots) (Nat.le_of_ble_eq_true rfl) (Nat.le_of_ble_eq_true rfl) ?_
  exact r_iret X hret hlk d_Rs_size_23

def f_Rs_firstOver (n : Nat) (v0 : Option Nat) (v1 : Int64) (σ : Hp) : Option (Option Nat × Hp) :=
  Option.bind (ld_R σ v0 8 1) fun x1 =>
  Option.bind (is_O σ x1 7) fun x4 =>
  pb (f_Ro_firstOver n x1 v1 none σ) fun x7 σ6 =>
  Option.bind (ld_R σ6 v0 8 2) fun x8 =>
  Option.bind (is_O σ6 x8 7) fun x11 =>
  pb (f_Ro_firstOver n x8 v1 x7 σ6) fun x14 σ13 =>
  Option.bind (ld_R σ13 v0 8 3) fun x15 =>
  Option.bind (is_O σ13 x15 7) fun x18 =>
  pb (f_Ro_firstOver n x15 v1 x14 σ13) fun x21 σ20 =>
  some (x21, σ20)
set_option maxRecDepth 100000 in
theorem c_Rs_firstOver {l : Launch} {DD : DT} (n : Nat) (v0 : Option Nat) (v1 : Int64) {σ0 σz : Hp} {rz : Option Nat} (hf : f_Rs_firstOver n v0 v1 σ0 = some (rz, σz)) : CT l DD y_Rs_firstOver prog_9_method_12_code 4 (some (.object "WindowCache$Entry")) rm_Rs_firstOver [tR v0, tL v1] σ0 (some (tR rz)) σz := by
  refine r_met (by decide) (Nat.le_of_ble_eq_true rfl) ?_
  intro p e s m args below meth c X hret hlk hnm
  unfold f_Rs_firstOver at hf
  refine r_aload_n X d_Rs_firstOver_0 rfl 0 rfl ?_
  obtain ⟨x1, h2, hf⟩ := obind hf
  refine r_ld_R (ci := 8) (k := 1) X h2 (Nat.le_of_ble_eq_true rfl) (Nat.le_of_ble_eq_true rfl) rfl rfl q164 d_Rs_firstOver_1 ?_
  refine r_lload_n X d_Rs_firstOver_4 rfl 1 rfl ?_
  refine r_null X d_Rs_firstOver_5 ?_
  obtain ⟨x4, h3, hf⟩ := obind hf
  obtain ⟨x7, σ6, h5, hf⟩ := pbind hf
  refine r_callV (st := []) X [tL v1, tR none] (ci := 7) h3 (Nat.le_of_ble_eq_true rfl) q384 q385 q386 (c_Ro_firstOver n x1 v1 none h5) q387 q9 y_Ro_firstOver_ok rfl ⟨Nat.le_of_ble_eq_true rfl, Nat.le_of_ble_eq_true rfl⟩ (Nat.le_of_ble_eq_true rfl) ⟨Nat.le_of_ble_eq_true rfl, Nat.le_of_ble_eq_true rfl⟩ d_Rs_firstOver_6 ?_
  refine r_astore_n (lv' := [(0, tR v0), (1, tL v1), (3, tR x7)]) X [1, 2, 0] d_Rs_firstOver_9 rfl (Nat.le_of_ble_eq_true rfl) rfl ?_
  refine r_aload_n X d_Rs_firstOver_10 rfl 0 rfl ?_
  obtain ⟨x8, h9, hf⟩ := obind hf
  refine r_ld_R (ci := 8) (k := 2) X h9 (Nat.le_of_ble_eq_true rfl) (Nat.le_of_ble_eq_true rfl) rfl rfl q166 d_Rs_firstOver_11 ?_
  refine r_lload_n X d_Rs_firstOver_14 rfl 1 rfl ?_
  refine r_aload_n X d_Rs_firstOver_15 rfl 2 rfl ?_
  obtain ⟨x11, h10, hf⟩ := obind hf
  obtain ⟨x14, σ13, h12, hf⟩ := pbind hf
  refine r_callV (st := []) X [tL v1, tR x7] (ci := 7) h10 (Nat.le_of_ble_eq_true rfl) q384 q385 q386 (c_Ro_firstOver n x8 v1 x7 h12) q387 q9 y_Ro_firstOver_ok rfl ⟨Nat.le_of_ble_eq_true rfl, Nat.le_of_ble_eq_true rfl⟩ (Nat.le_of_ble_eq_true rfl) ⟨Nat.le_of_ble_eq_true rfl, Nat.le_of_ble_eq_true rfl⟩ d_Rs_firstOver_16 ?_
  refine r_astore_n (lv' := [(0, tR v0), (1, tL v1), (3, tR x14)]) X [1, 2, 0] d_Rs_firstOver_19 rfl (Nat.le_of_ble_eq_true rfl) rfl ?_
  refine r_aload_n X d_Rs_firstOver_20 rfl 0 rfl ?_
  obtain ⟨x15, h16, hf⟩ := obind hf
  refine r_ld_R (ci := 8) (k := 3) X h16 (Nat.le_of_ble_eq_true rfl) (Nat.le_of_ble_eq_true rfl) rfl rfl q168 d_Rs_firstOver_21 ?_
  refine r_lload_n X d_Rs_firstOver_24 rfl 1 rfl ?_
  refine r_aload_n X d_Rs_firstOver_25 rfl 2 rfl ?_
  obtain ⟨x18, h17, hf⟩ := obind hf
  obtain ⟨x21, σ20, h19, hf⟩ := pbind hf
  refine r_callV (st := []) X [tL v1, tR x14] (ci := 7) h17 (Nat.le_of_ble_eq_true rfl) q384 q385 q386 (c_Ro_firstOver n x15 v1 x14 h19) q387 q9 y_Ro_firstOver_ok rfl ⟨Nat.le_of_ble_eq_true rfl, Nat.le_of_ble_eq_true rfl⟩ (Nat.le_of_ble_eq_true rfl) ⟨Nat.le_of_ble_eq_true rfl, Nat.le_of_ble_eq_true rfl⟩ d_Rs_firstOver_26 ?_
  cases hf
  refine r_widen (kc2 := rm_Rs_firstOver.cells) (ks2 := rm_Rs_firstOver.slots) (Nat.le_of_ble_eq_true rfl) (Nat.le_of_ble_eq_true rfl) ?_
  exact r_aret X hret hlk d_Rs_firstOver_29

def f_Rs_moveEarliest (v0 : Option Nat) (v1 : Option Nat) (v2 : Option Nat) (σ : Hp) : Option Hp :=
  Option.bind (ld_R σ v1 7 0) fun x1 =>
  if x1 = none then
  (
    some σ)
  else
  (
    Option.bind (is_O σ v1 7) fun x5 =>
    Option.bind (f_Ro_cutOut v1 x1 σ) fun σ7 =>
    Option.bind (is_O σ7 v2 7) fun x9 =>
    Option.bind (f_Ro_addLatest v2 x1 σ7) fun σ11 =>
    some σ11)
set_option maxRecDepth 100000 in
theorem c_Rs_moveEarliest {l : Launch} {DD : DT} (v0 : Option Nat) (v1 : Option Nat) (v2 : Option Nat) {σ0 σz : Hp} (hf : f_Rs_moveEarliest v0 v1 v2 σ0 = some σz) : CT l DD y_Rs_moveEarliest prog_9_method_9_code 4 none rm_Rs_moveEarliest [tR v0, tR v1, tR v2] σ0 none σz := by
  refine r_met (by decide) (Nat.le_of_ble_eq_true rfl) ?_
  intro p e s m args below meth c X hret hlk hnm
  unfold f_Rs_moveEarliest at hf
  refine r_aload_n X d_Rs_moveEarliest_0 rfl 1 rfl ?_
  obtain ⟨x1, h2, hf⟩ := obind hf
  refine r_ld_R (ci := 7) (k := 0) X h2 (Nat.le_of_ble_eq_true rfl) (Nat.le_of_ble_eq_true rfl) rfl rfl q145 d_Rs_moveEarliest_1 ?_
  refine r_astore_n (lv' := [(1, tR v1), (2, tR v2), (3, tR x1)]) X [2, 3, 0] d_Rs_moveEarliest_4 rfl (Nat.le_of_ble_eq_true rfl) rfl ?_
  refine r_aload_n X d_Rs_moveEarliest_5 rfl 2 rfl ?_
  refine r_ifnull (tgt := 19) X d_Rs_moveEarliest_6 (by decide) (fun hc3 => ?_) (fun hc3 => ?_)
  · have hf := (if_pos hc3).symm.trans hf
    cases hf
    refine r_widen (kc2 := rm_Rs_moveEarliest.cells) (ks2 := rm_Rs_moveEarliest.slots) (Nat.le_of_ble_eq_true rfl) (Nat.le_of_ble_eq_true rfl) ?_
    exact r_vret X hret hlk d_Rs_moveEarliest_19
  · have hf := (if_neg hc3).symm.trans hf
    refine r_aload_n X d_Rs_moveEarliest_9 rfl 0 rfl ?_
    refine r_aload_n X d_Rs_moveEarliest_10 rfl 2 rfl ?_
    obtain ⟨x5, h4, hf⟩ := obind hf
    obtain ⟨σ7, h6, hf⟩ := obind hf
    refine r_callV (st := []) X [tR x1] (ci := 7) h4 (Nat.le_of_ble_eq_true rfl) q351 q352 q353 (c_Ro_cutOut v1 x1 h6) q354 q9 y_Ro_cutOut_ok rfl ⟨Nat.le_of_ble_eq_true rfl, Nat.le_of_ble_eq_true rfl⟩ (Nat.le_of_ble_eq_true rfl) ⟨Nat.le_of_ble_eq_true rfl, Nat.le_of_ble_eq_true rfl⟩ d_Rs_moveEarliest_11 ?_
    refine r_aload_n X d_Rs_moveEarliest_14 rfl 1 rfl ?_
    refine r_aload_n X d_Rs_moveEarliest_15 rfl 2 rfl ?_
    obtain ⟨x9, h8, hf⟩ := obind hf
    obtain ⟨σ11, h10, hf⟩ := obind hf
    refine r_callV (st := []) X [tR x1] (ci := 7) h8 (Nat.le_of_ble_eq_true rfl) q355 q356 q357 (c_Ro_addLatest v2 x1 h10) q358 q9 y_Ro_addLatest_ok rfl ⟨Nat.le_of_ble_eq_true rfl, Nat.le_of_ble_eq_true rfl⟩ (Nat.le_of_ble_eq_true rfl) ⟨Nat.le_of_ble_eq_true rfl, Nat.le_of_ble_eq_true rfl⟩ d_Rs_moveEarliest_16 ?_
    cases hf
    refine r_widen (kc2 := rm_Rs_moveEarliest.cells) (ks2 := rm_Rs_moveEarliest.slots) (Nat.le_of_ble_eq_true rfl) (Nat.le_of_ble_eq_true rfl) ?_
    exact r_vret X hret hlk d_Rs_moveEarliest_19

def f_Rs_spillWindow_34 (n : Nat)  : Nat → Option Nat → Option Nat → Int32 → Hp → Option (Option Nat × Hp)
  | 0, _, _, _, _ => none
  | i + 1, v0, v1, v2, σ =>
    if v2 ≤ 0 then
    (
      some (v1, σ))
    else
    (
      Option.bind (ld_R σ v0 8 1) fun x13 =>
      Option.bind (ld_I σ x13 7 2) fun x15 =>
      Option.bind (ld_I σ v0 8 4) fun x17 =>
      if x15 ≤ x17 then
      (
        some (v1, σ))
      else
      (
        Option.bind (ld_R σ v0 8 1) fun x20 =>
        Option.bind (ld_R σ v0 8 2) fun x22 =>
        Option.bind (is_O σ v0 8) fun x25 =>
        Option.bind (f_Rs_moveEarliest v0 x20 x22 σ) fun σ27 =>
        f_Rs_spillWindow_34 n i v0 v1 (v2 + (-1)) σ27))
set_option maxRecDepth 100000 in
theorem b_Rs_spillWindow_34 {p : Program} {l : Launch} {e : Env} {s : State} {m : MethodId} {args : Array Value} {below : List Frame} {meth : Method} {c : Code} {DD : DT} {σ0 σz : Hp} {rz : Option Nat} (X : CX p s m args c prog_9_method_7_code 3 (dm σ0) DD y_Rs_spillWindow.cls) (hret : meth.sig.returnType = some (.object "WindowCache$Entry")) (hlk : meth.locks = false) (hnm : meth.name = y_Rs_spillWindow.name) (n : Nat)   : ∀ (i : Nat) (v0 : Option Nat) (v1 : Option Nat) (v2 : Int32) (σ : Hp) (hf : f_Rs_spillWindow_34 n  i v0 v1 v2 σ = some (rz, σz)), GG p l e rm_Rs_spillWindow s m args below meth c 3 (dm σ0) DD (MQ below (Post DD σ0 (some (tR rz)) σz) args s rm_Rs_spillWindow.cells rm_Rs_spillWindow.slots (dm σ0)) 0 0 σ 34 [(0, tR v0), (1, tR v1), (2, tI v2)] [] := by
  intro i
  induction i with
  | zero => intro v0 v1 v2 σ hf; cases hf
  | succ i ih =>
    intro v0 v1 v2 σ hf
    simp only [f_Rs_spillWindow_34] at hf
    refine r_iload_n X d_Rs_spillWindow_34 rfl 2 rfl ?_
    refine r_if_le (tgt := 70) X d_Rs_spillWindow_35 (by decide) (fun hc12 => ?_) (fun hc12 => ?_)
    · have hf := (if_pos hc12).symm.trans hf
      refine r_aload_n X d_Rs_spillWindow_70 rfl 1 rfl ?_
      cases hf
      refine r_widen (kc2 := rm_Rs_spillWindow.cells) (ks2 := rm_Rs_spillWindow.slots) (Nat.le_of_ble_eq_true rfl) (Nat.le_of_ble_eq_true rfl) ?_
      exact r_aret X hret hlk d_Rs_spillWindow_71
    · have hf := (if_neg hc12).symm.trans hf
      refine r_aload_n X d_Rs_spillWindow_38 rfl 0 rfl ?_
      obtain ⟨x13, h14, hf⟩ := obind hf
      refine r_ld_R (ci := 8) (k := 1) X h14 (Nat.le_of_ble_eq_true rfl) (Nat.le_of_ble_eq_true rfl) rfl rfl q164 d_Rs_spillWindow_39 ?_
      obtain ⟨x15, h16, hf⟩ := obind hf
      refine r_ld_I (ci := 7) (k := 2) X h16 (Nat.le_of_ble_eq_true rfl) (Nat.le_of_ble_eq_true rfl) (Or.inl rfl) rfl q147 d_Rs_spillWindow_42 ?_
      refine r_aload_n X d_Rs_spillWindow_45 rfl 0 rfl ?_
      obtain ⟨x17, h18, hf⟩ := obind hf
      refine r_ld_I (ci := 8) (k := 4) X h18 (Nat.le_of_ble_eq_true rfl) (Nat.le_of_ble_eq_true rfl) (Or.inl rfl) rfl q170 d_Rs_spillWindow_46 ?_
      refine r_icmp_le (tgt := 70) X d_Rs_spillWindow_49 (by decide) (fun hc19 => ?_) (fun hc19 => ?_)
      · have hf := (if_pos hc19).symm.trans hf
        refine r_aload_n X d_Rs_spillWindow_70 rfl 1 rfl ?_
        cases hf
        refine r_widen (kc2 := rm_Rs_spillWindow.cells) (ks2 := rm_Rs_spillWindow.slots) (Nat.le_of_ble_eq_true rfl) (Nat.le_of_ble_eq_true rfl) ?_
        exact r_aret X hret hlk d_Rs_spillWindow_71
      · have hf := (if_neg hc19).symm.trans hf
        refine r_aload_n X d_Rs_spillWindow_52 rfl 0 rfl ?_
        refine r_aload_n X d_Rs_spillWindow_53 rfl 0 rfl ?_
        obtain ⟨x20, h21, hf⟩ := obind hf
        refine r_ld_R (ci := 8) (k := 1) X h21 (Nat.le_of_ble_eq_true rfl) (Nat.le_of_ble_eq_true rfl) rfl rfl q164 d_Rs_spillWindow_54 ?_
        refine r_aload_n X d_Rs_spillWindow_57 rfl 0 rfl ?_
        obtain ⟨x22, h23, hf⟩ := obind hf
        refine r_ld_R (ci := 8) (k := 2) X h23 (Nat.le_of_ble_eq_true rfl) (Nat.le_of_ble_eq_true rfl) rfl rfl q166 d_Rs_spillWindow_58 ?_
        obtain ⟨x25, h24, hf⟩ := obind hf
        obtain ⟨σ27, h26, hf⟩ := obind hf
        refine r_callV (st := []) X [tR x20, tR x22] (ci := 8) h24 (Nat.le_of_ble_eq_true rfl) q395 q396 q397 (c_Rs_moveEarliest v0 x20 x22 h26) q398 q8 y_Rs_moveEarliest_ok rfl ⟨Nat.le_of_ble_eq_true rfl, Nat.le_of_ble_eq_true rfl⟩ (Nat.le_of_ble_eq_true rfl) ⟨Nat.le_of_ble_eq_true rfl, Nat.le_of_ble_eq_true rfl⟩ d_Rs_spillWindow_61 ?_
        refine r_iinc (lv' := [(0, tR v0), (1, tR v1), (2, tI (v2 + (-1)))]) (j := 2) X [1, 2, 0] d_Rs_spillWindow_64 rfl rfl (Nat.le_of_ble_eq_true rfl) rfl ?_
        refine r_goto (tgt := 34) X d_Rs_spillWindow_67 (by decide) ?_
        refine r_widen (kc2 := 0) (ks2 := 0) (Nat.le_of_ble_eq_true rfl) (Nat.le_of_ble_eq_true rfl) ?_
        refine r_sub [0, 1, 2] (lv' := [(0, tR v0), (1, tR v1), (2, tI (v2 + (-1)))]) rfl ?_
        exact ih v0 v1 (v2 + (-1)) σ27 hf

def f_Rs_spillWindow_25 (n : Nat)  (v0 : Option Nat) (w0 : Option Nat) (σ : Hp) : Option (Option Nat × Hp) :=
  Option.bind (ld_R σ v0 8 1) fun x8 =>
  Option.bind (ld_I σ x8 7 3) fun x10 =>
  f_Rs_spillWindow_34 n  n v0 w0 x10 σ
set_option maxRecDepth 100000 in
theorem b_Rs_spillWindow_25 {p : Program} {l : Launch} {e : Env} {s : State} {m : MethodId} {args : Array Value} {below : List Frame} {meth : Method} {c : Code} {DD : DT} {σ0 σz : Hp} {rz : Option Nat} (X : CX p s m args c prog_9_method_7_code 3 (dm σ0) DD y_Rs_spillWindow.cls) (hret : meth.sig.returnType = some (.object "WindowCache$Entry")) (hlk : meth.locks = false) (hnm : meth.name = y_Rs_spillWindow.name) (n : Nat)   (v0 : Option Nat) (w0 : Option Nat) (σ : Hp) (hf : f_Rs_spillWindow_25 n  v0 w0 σ = some (rz, σz)) : GG p l e rm_Rs_spillWindow s m args below meth c 3 (dm σ0) DD (MQ below (Post DD σ0 (some (tR rz)) σz) args s rm_Rs_spillWindow.cells rm_Rs_spillWindow.slots (dm σ0)) 0 0 σ 25 [(0, tR v0)] [tR w0] := by
  unfold f_Rs_spillWindow_25 at hf
  refine r_astore_n (lv' := [(0, tR v0), (1, tR w0)]) X [1, 0] d_Rs_spillWindow_25 rfl (Nat.le_of_ble_eq_true rfl) rfl ?_
  refine r_aload_n X d_Rs_spillWindow_26 rfl 0 rfl ?_
  obtain ⟨x8, h9, hf⟩ := obind hf
  refine r_ld_R (ci := 8) (k := 1) X h9 (Nat.le_of_ble_eq_true rfl) (Nat.le_of_ble_eq_true rfl) rfl rfl q164 d_Rs_spillWindow_27 ?_
  obtain ⟨x10, h11, hf⟩ := obind hf
  refine r_ld_I (ci := 7) (k := 3) X h11 (Nat.le_of_ble_eq_true rfl) (Nat.le_of_ble_eq_true rfl) (Or.inl rfl) rfl q151 d_Rs_spillWindow_30 ?_
  refine r_istore_n (lv' := [(0, tR v0), (1, tR w0), (2, tI x10)]) X [1, 2, 0] d_Rs_spillWindow_33 rfl (Nat.le_of_ble_eq_true rfl) rfl ?_
  refine r_widen (kc2 := 0) (ks2 := 0) (Nat.le_of_ble_eq_true rfl) (Nat.le_of_ble_eq_true rfl) ?_
  refine r_sub [0, 1, 2] (lv' := [(0, tR v0), (1, tR w0), (2, tI x10)]) rfl ?_
  exact b_Rs_spillWindow_34 X hret hlk hnm n   n v0 w0 x10 σ hf

def f_Rs_spillWindow (n : Nat) (v0 : Option Nat) (σ : Hp) : Option (Option Nat × Hp) :=
  Option.bind (ld_R σ v0 8 1) fun x1 =>
  Option.bind (ld_I σ x1 7 2) fun x3 =>
  Option.bind (ld_I σ v0 8 4) fun x5 =>
  if x3 ≤ x5 then
  (
    f_Rs_spillWindow_25 n  v0 none σ)
  else
  (
    Option.bind (ld_R σ v0 8 1) fun x28 =>
    Option.bind (ld_R σ x28 7 0) fun x30 =>
    f_Rs_spillWindow_25 n  v0 x30 σ)
set_option maxRecDepth 100000 in
theorem c_Rs_spillWindow {l : Launch} {DD : DT} (n : Nat) (v0 : Option Nat) {σ0 σz : Hp} {rz : Option Nat} (hf : f_Rs_spillWindow n v0 σ0 = some (rz, σz)) : CT l DD y_Rs_spillWindow prog_9_method_7_code 3 (some (.object "WindowCache$Entry")) rm_Rs_spillWindow [tR v0] σ0 (some (tR rz)) σz := by
  refine r_met (by decide) (Nat.le_of_ble_eq_true rfl) ?_
  intro p e s m args below meth c X hret hlk hnm
  unfold f_Rs_spillWindow at hf
  refine r_aload_n X d_Rs_spillWindow_0 rfl 0 rfl ?_
  obtain ⟨x1, h2, hf⟩ := obind hf
  refine r_ld_R (ci := 8) (k := 1) X h2 (Nat.le_of_ble_eq_true rfl) (Nat.le_of_ble_eq_true rfl) rfl rfl q164 d_Rs_spillWindow_1 ?_
  obtain ⟨x3, h4, hf⟩ := obind hf
  refine r_ld_I (ci := 7) (k := 2) X h4 (Nat.le_of_ble_eq_true rfl) (Nat.le_of_ble_eq_true rfl) (Or.inl rfl) rfl q147 d_Rs_spillWindow_4 ?_
  refine r_aload_n X d_Rs_spillWindow_7 rfl 0 rfl ?_
  obtain ⟨x5, h6, hf⟩ := obind hf
  refine r_ld_I (ci := 8) (k := 4) X h6 (Nat.le_of_ble_eq_true rfl) (Nat.le_of_ble_eq_true rfl) (Or.inl rfl) rfl q170 d_Rs_spillWindow_8 ?_
  refine r_icmp_le (tgt := 24) X d_Rs_spillWindow_11 (by decide) (fun hc7 => ?_) (fun hc7 => ?_)
  · have hf := (if_pos hc7).symm.trans hf
    refine r_null X d_Rs_spillWindow_24 ?_
    refine r_widen (kc2 := 0) (ks2 := 0) (Nat.le_of_ble_eq_true rfl) (Nat.le_of_ble_eq_true rfl) ?_
    refine r_sub [0] (lv' := [(0, tR v0)]) rfl ?_
    exact b_Rs_spillWindow_25 X hret hlk hnm n   v0 none σ0 hf
  · have hf := (if_neg hc7).symm.trans hf
    refine r_aload_n X d_Rs_spillWindow_14 rfl 0 rfl ?_
    obtain ⟨x28, h29, hf⟩ := obind hf
    refine r_ld_R (ci := 8) (k := 1) X h29 (Nat.le_of_ble_eq_true rfl) (Nat.le_of_ble_eq_true rfl) rfl rfl q164 d_Rs_spillWindow_15 ?_
    obtain ⟨x30, h31, hf⟩ := obind hf
    refine r_ld_R (ci := 7) (k := 0) X h31 (Nat.le_of_ble_eq_true rfl) (Nat.le_of_ble_eq_true rfl) rfl rfl q145 d_Rs_spillWindow_18 ?_
    refine r_goto (tgt := 25) X d_Rs_spillWindow_21 (by decide) ?_
    refine r_widen (kc2 := 0) (ks2 := 0) (Nat.le_of_ble_eq_true rfl) (Nat.le_of_ble_eq_true rfl) ?_
    refine r_sub [0] (lv' := [(0, tR v0)]) rfl ?_
    exact b_Rs_spillWindow_25 X hret hlk hnm n   v0 x30 σ0 hf

def f_Rs_weight (v0 : Option Nat) (σ : Hp) : Option (Int32 × Hp) :=
  Option.bind (ld_R σ v0 8 1) fun x1 =>
  Option.bind (ld_I σ x1 7 2) fun x3 =>
  Option.bind (ld_R σ v0 8 2) fun x5 =>
  Option.bind (ld_I σ x5 7 2) fun x7 =>
  Option.bind (ld_R σ v0 8 3) fun x9 =>
  Option.bind (ld_I σ x9 7 2) fun x11 =>
  some ((x3 + x7) + x11, σ)
set_option maxRecDepth 100000 in
theorem c_Rs_weight {l : Launch} {DD : DT} (v0 : Option Nat) {σ0 σz : Hp} {rz : Int32} (hf : f_Rs_weight v0 σ0 = some (rz, σz)) : CT l DD y_Rs_weight prog_9_method_2_code 1 (some .int) rm_Rs_weight [tR v0] σ0 (some (tI rz)) σz := by
  refine r_met (by decide) (Nat.le_of_ble_eq_true rfl) ?_
  intro p e s m args below meth c X hret hlk hnm
  unfold f_Rs_weight at hf
  refine r_aload_n X d_Rs_weight_0 rfl 0 rfl ?_
  obtain ⟨x1, h2, hf⟩ := obind hf
  refine r_ld_R (ci := 8) (k := 1) X h2 (Nat.le_of_ble_eq_true rfl) (Nat.le_of_ble_eq_true rfl) rfl rfl q164 d_Rs_weight_1 ?_
  obtain ⟨x3, h4, hf⟩ := obind hf
  refine r_ld_I (ci := 7) (k := 2) X h4 (Nat.le_of_ble_eq_true rfl) (Nat.le_of_ble_eq_true rfl) (Or.inl rfl) rfl q147 d_Rs_weight_4 ?_
  refine r_aload_n X d_Rs_weight_7 rfl 0 rfl ?_
  obtain ⟨x5, h6, hf⟩ := obind hf
  refine r_ld_R (ci := 8) (k := 2) X h6 (Nat.le_of_ble_eq_true rfl) (Nat.le_of_ble_eq_true rfl) rfl rfl q166 d_Rs_weight_8 ?_
  obtain ⟨x7, h8, hf⟩ := obind hf
  refine r_ld_I (ci := 7) (k := 2) X h8 (Nat.le_of_ble_eq_true rfl) (Nat.le_of_ble_eq_true rfl) (Or.inl rfl) rfl q147 d_Rs_weight_11 ?_
  refine r_iadd X d_Rs_weight_14 ?_
  refine r_aload_n X d_Rs_weight_15 rfl 0 rfl ?_
  obtain ⟨x9, h10, hf⟩ := obind hf
  refine r_ld_R (ci := 8) (k := 3) X h10 (Nat.le_of_ble_eq_true rfl) (Nat.le_of_ble_eq_true rfl) rfl rfl q168 d_Rs_weight_16 ?_
  obtain ⟨x11, h12, hf⟩ := obind hf
  refine r_ld_I (ci := 7) (k := 2) X h12 (Nat.le_of_ble_eq_true rfl) (Nat.le_of_ble_eq_true rfl) (Or.inl rfl) rfl q147 d_Rs_weight_19 ?_
  refine r_iadd X d_Rs_weight_22 ?_
  cases hf
  refine r_widen (kc2 := rm_Rs_weight.cells) (ks2 := rm_Rs_weight.slots) (Nat.le_of_ble_eq_true rfl) (Nat.le_of_ble_eq_true rfl) ?_
  exact r_iret X hret hlk d_Rs_weight_23

def f_Rs_victim (v0 : Option Nat) (σ : Hp) : Option (Option Nat × Hp) :=
  Option.bind (ld_R σ v0 8 2) fun x1 =>
  Option.bind (ld_R σ x1 7 0) fun x3 =>
  if x3 = none then
  (
    Option.bind (ld_R σ v0 8 3) fun x6 =>
    Option.bind (ld_R σ x6 7 0) fun x8 =>
    if x8 = none then
    (
      Option.bind (ld_R σ v0 8 1) fun x11 =>
      Option.bind (ld_R σ x11 7 0) fun x13 =>
      some (x13, σ))
    else
    (
      Option.bind (ld_R σ v0 8 3) fun x15 =>
      Option.bind (ld_R σ x15 7 0) fun x17 =>
      some (x17, σ)))
  else
  (
    Option.bind (ld_R σ v0 8 2) fun x19 =>
    Option.bind (ld_R σ x19 7 0) fun x21 =>
    some (x21, σ))
set_option maxRecDepth 100000 in
theorem c_Rs_victim {l : Launch} {DD : DT} (v0 : Option Nat) {σ0 σz : Hp} {rz : Option Nat} (hf : f_Rs_victim v0 σ0 = some (rz, σz)) : CT l DD y_Rs_victim prog_9_method_11_code 1 (some (.object "WindowCache$Entry")) rm_Rs_victim [tR v0] σ0 (some (tR rz)) σz := by
  refine r_met (by decide) (Nat.le_of_ble_eq_true rfl) ?_
  intro p e s m args below meth c X hret hlk hnm
  unfold f_Rs_victim at hf
  refine r_aload_n X d_Rs_victim_0 rfl 0 rfl ?_
  obtain ⟨x1, h2, hf⟩ := obind hf
  refine r_ld_R (ci := 8) (k := 2) X h2 (Nat.le_of_ble_eq_true rfl) (Nat.le_of_ble_eq_true rfl) rfl rfl q166 d_Rs_victim_1 ?_
  obtain ⟨x3, h4, hf⟩ := obind hf
  refine r_ld_R (ci := 7) (k := 0) X h4 (Nat.le_of_ble_eq_true rfl) (Nat.le_of_ble_eq_true rfl) rfl rfl q145 d_Rs_victim_4 ?_
  refine r_ifnull (tgt := 18) X d_Rs_victim_7 (by decide) (fun hc5 => ?_) (fun hc5 => ?_)
  · have hf := (if_pos hc5).symm.trans hf
    refine r_aload_n X d_Rs_victim_18 rfl 0 rfl ?_
    obtain ⟨x6, h7, hf⟩ := obind hf
    refine r_ld_R (ci := 8) (k := 3) X h7 (Nat.le_of_ble_eq_true rfl) (Nat.le_of_ble_eq_true rfl) rfl rfl q168 d_Rs_victim_19 ?_
    obtain ⟨x8, h9, hf⟩ := obind hf
    refine r_ld_R (ci := 7) (k := 0) X h9 (Nat.le_of_ble_eq_true rfl) (Nat.le_of_ble_eq_true rfl) rfl rfl q145 d_Rs_victim_22 ?_
    refine r_ifnull (tgt := 38) X d_Rs_victim_25 (by decide) (fun hc10 => ?_) (fun hc10 => ?_)
    · have hf := (if_pos hc10).symm.trans hf
      refine r_aload_n X d_Rs_victim_38 rfl 0 rfl ?_
      obtain ⟨x11, h12, hf⟩ := obind hf
      refine r_ld_R (ci := 8) (k := 1) X h12 (Nat.le_of_ble_eq_true rfl) (Nat.le_of_ble_eq_true rfl) rfl rfl q164 d_Rs_victim_39 ?_
      obtain ⟨x13, h14, hf⟩ := obind hf
      refine r_ld_R (ci := 7) (k := 0) X h14 (Nat.le_of_ble_eq_true rfl) (Nat.le_of_ble_eq_true rfl) rfl rfl q145 d_Rs_victim_42 ?_
      cases hf
      refine r_widen (kc2 := rm_Rs_victim.cells) (ks2 := rm_Rs_victim.slots) (Nat.le_of_ble_eq_true rfl) (Nat.le_of_ble_eq_true rfl) ?_
      exact r_aret X hret hlk d_Rs_victim_45
    · have hf := (if_neg hc10).symm.trans hf
      refine r_aload_n X d_Rs_victim_28 rfl 0 rfl ?_
      obtain ⟨x15, h16, hf⟩ := obind hf
      refine r_ld_R (ci := 8) (k := 3) X h16 (Nat.le_of_ble_eq_true rfl) (Nat.le_of_ble_eq_true rfl) rfl rfl q168 d_Rs_victim_29 ?_
      obtain ⟨x17, h18, hf⟩ := obind hf
      refine r_ld_R (ci := 7) (k := 0) X h18 (Nat.le_of_ble_eq_true rfl) (Nat.le_of_ble_eq_true rfl) rfl rfl q145 d_Rs_victim_32 ?_
      refine r_goto (tgt := 45) X d_Rs_victim_35 (by decide) ?_
      cases hf
      refine r_widen (kc2 := rm_Rs_victim.cells) (ks2 := rm_Rs_victim.slots) (Nat.le_of_ble_eq_true rfl) (Nat.le_of_ble_eq_true rfl) ?_
      exact r_aret X hret hlk d_Rs_victim_45
  · have hf := (if_neg hc5).symm.trans hf
    refine r_aload_n X d_Rs_victim_10 rfl 0 rfl ?_
    obtain ⟨x19, h20, hf⟩ := obind hf
    refine r_ld_R (ci := 8) (k := 2) X h20 (Nat.le_of_ble_eq_true rfl) (Nat.le_of_ble_eq_true rfl) rfl rfl q166 d_Rs_victim_11 ?_
    obtain ⟨x21, h22, hf⟩ := obind hf
    refine r_ld_R (ci := 7) (k := 0) X h22 (Nat.le_of_ble_eq_true rfl) (Nat.le_of_ble_eq_true rfl) rfl rfl q145 d_Rs_victim_14 ?_
    cases hf
    refine r_widen (kc2 := rm_Rs_victim.cells) (ks2 := rm_Rs_victim.slots) (Nat.le_of_ble_eq_true rfl) (Nat.le_of_ble_eq_true rfl) ?_
    exact r_aret X hret hlk d_Rs_victim_17

def f_Rs_changeWindow (v0 : Option Nat) (v1 : Int32) (σ : Hp) : Option Hp :=
  Option.bind (ld_I σ v0 8 4) fun x1 =>
  Option.bind (ld_I σ v0 8 0) fun x3 =>
  Option.bind (st_I σ v0 8 4 (imax_ 1 (imin_ (x1 + v1) (x3 - 1)))) fun σ5 =>
  some σ5
set_option maxRecDepth 100000 in
theorem c_Rs_changeWindow {l : Launch} {DD : DT} (v0 : Option Nat) (v1 : Int32) {σ0 σz : Hp} (hf : f_Rs_changeWindow v0 v1 σ0 = some σz) : CT l DD y_Rs_changeWindow prog_9_method_10_code 2 none rm_Rs_changeWindow [tR v0, tI v1] σ0 none σz := by
  refine r_met (by decide) (Nat.le_of_ble_eq_true rfl) ?_
  intro p e s m args below meth c X hret hlk hnm
  unfold f_Rs_changeWindow at hf
  refine r_aload_n X d_Rs_changeWindow_0 rfl 0 rfl ?_
  refine r_iconst (v := 1) X d_Rs_changeWindow_1 (by decide) ?_
  refine r_aload_n X d_Rs_changeWindow_2 rfl 0 rfl ?_
  obtain ⟨x1, h2, hf⟩ := obind hf
  refine r_ld_I (ci := 8) (k := 4) X h2 (Nat.le_of_ble_eq_true rfl) (Nat.le_of_ble_eq_true rfl) (Or.inl rfl) rfl q170 d_Rs_changeWindow_3 ?_
  refine r_iload_n X d_Rs_changeWindow_6 rfl 1 rfl ?_
  refine r_iadd X d_Rs_changeWindow_7 ?_
  refine r_aload_n X d_Rs_changeWindow_8 rfl 0 rfl ?_
  obtain ⟨x3, h4, hf⟩ := obind hf
  refine r_ld_I (ci := 8) (k := 0) X h4 (Nat.le_of_ble_eq_true rfl) (Nat.le_of_ble_eq_true rfl) (Or.inl rfl) rfl q162 d_Rs_changeWindow_9 ?_
  refine r_iconst (v := 1) X d_Rs_changeWindow_12 (by decide) ?_
  refine r_isub X d_Rs_changeWindow_13 ?_
  refine r_mmin X q443 q93 q5 q94 (Nat.le_of_ble_eq_true rfl) (Nat.le_of_ble_eq_true rfl) (Nat.le_of_ble_eq_true rfl) (Nat.le_of_ble_eq_true rfl) d_Rs_changeWindow_14 ?_
  refine r_mmax X q161 q96 q5 q97 (Nat.le_of_ble_eq_true rfl) (Nat.le_of_ble_eq_true rfl) (Nat.le_of_ble_eq_true rfl) (Nat.le_of_ble_eq_true rfl) d_Rs_changeWindow_17 ?_
  obtain ⟨σ5, h6, hf⟩ := obind hf
  refine r_st_I (ci := 8) (k := 4) X h6 (Nat.le_of_ble_eq_true rfl) (Nat.le_of_ble_eq_true rfl) rfl rfl rfl q170 d_Rs_changeWindow_20 ?_
  cases hf
  refine r_widen (kc2 := rm_Rs_changeWindow.cells) (ks2 := rm_Rs_changeWindow.slots) (Nat.le_of_ble_eq_true rfl) (Nat.le_of_ble_eq_true rfl) ?_
  exact r_vret X hret hlk d_Rs_changeWindow_23

def f_Rs_fillWindow_41 (n : Nat) (rec16 : Option Nat → Int32 → Hp → Option Hp) (v0 : Option Nat) (v1 : Int32) (w0 : Option Nat) (σ : Hp) : Option Hp :=
  Option.bind (ld_R σ w0 7 0) fun x17 =>
  if x17 = none then
  (
    some σ)
  else
  (
    Option.bind (ld_R σ v0 8 1) fun x20 =>
    Option.bind (ld_I σ x20 7 2) fun x22 =>
    Option.bind (ld_R σ w0 7 0) fun x24 =>
    Option.bind (ld_I σ x24 3 2) fun x26 =>
    Option.bind (ld_I σ v0 8 4) fun x28 =>
    if (x22 + x26) ≤ x28 then
    (
      Option.bind (ld_R σ v0 8 1) fun x31 =>
      Option.bind (is_O σ v0 8) fun x34 =>
      Option.bind (f_Rs_moveEarliest v0 w0 x31 σ) fun σ36 =>
      rec16 v0 (v1 + (-1)) σ36)
    else
    (
      some σ))
set_option maxRecDepth 100000 in
theorem b_Rs_fillWindow_41 {p : Program} {l : Launch} {e : Env} {s : State} {m : MethodId} {args : Array Value} {below : List Frame} {meth : Method} {c : Code} {DD : DT} {σ0 σz : Hp} (X : CX p s m args c prog_9_method_8_code 3 (dm σ0) DD y_Rs_fillWindow.cls) (hret : meth.sig.returnType = none) (hlk : meth.locks = false) (hnm : meth.name = y_Rs_fillWindow.name) (n : Nat) (rec16 : Option Nat → Int32 → Hp → Option Hp) (hrec16 : ∀ (v0 : Option Nat) (v1 : Int32) (σ : Hp), rec16 v0 v1 σ = some σz → GG p l e rm_Rs_fillWindow s m args below meth c 3 (dm σ0) DD (MQ below (Post DD σ0 none σz) args s rm_Rs_fillWindow.cells rm_Rs_fillWindow.slots (dm σ0)) 0 0 σ 16 [(0, tR v0), (1, tI v1)] []) (v0 : Option Nat) (v1 : Int32) (w0 : Option Nat) (σ : Hp) (hf : f_Rs_fillWindow_41 n rec16 v0 v1 w0 σ = some σz) : GG p l e rm_Rs_fillWindow s m args below meth c 3 (dm σ0) DD (MQ below (Post DD σ0 none σz) args s rm_Rs_fillWindow.cells rm_Rs_fillWindow.slots (dm σ0)) 0 0 σ 41 [(0, tR v0), (1, tI v1)] [tR w0] := by
  unfold f_Rs_fillWindow_41 at hf
  refine r_astore_n (lv' := [(0, tR v0), (1, tI v1), (2, tR w0)]) X [1, 2, 0] d_Rs_fillWindow_41 rfl (Nat.le_of_ble_eq_true rfl) rfl ?_
  refine r_aload_n X d_Rs_fillWindow_42 rfl 2 rfl ?_
  obtain ⟨x17, h18, hf⟩ := obind hf
  refine r_ld_R (ci := 7) (k := 0) X h18 (Nat.le_of_ble_eq_true rfl) (Nat.le_of_ble_eq_true rfl) rfl rfl q145 d_Rs_fillWindow_43 ?_
  refine r_ifnull (tgt := 71) X d_Rs_fillWindow_46 (by decide) (fun hc19 => ?_) (fun hc19 => ?_)
  · have hf := (if_pos hc19).symm.trans hf
    cases hf
    refine r_widen (kc2 := rm_Rs_fillWindow.cells) (ks2 := rm_Rs_fillWindow.slots) (Nat.le_of_ble_eq_true rfl) (Nat.le_of_ble_eq_true rfl) ?_
    exact r_vret X hret hlk d_Rs_fillWindow_71
  · have hf := (if_neg hc19).symm.trans hf
    refine r_aload_n X d_Rs_fillWindow_49 rfl 0 rfl ?_
    obtain ⟨x20, h21, hf⟩ := obind hf
    refine r_ld_R (ci := 8) (k := 1) X h21 (Nat.le_of_ble_eq_true rfl) (Nat.le_of_ble_eq_true rfl) rfl rfl q164 d_Rs_fillWindow_50 ?_
    obtain ⟨x22, h23, hf⟩ := obind hf
    refine r_ld_I (ci := 7) (k := 2) X h23 (Nat.le_of_ble_eq_true rfl) (Nat.le_of_ble_eq_true rfl) (Or.inl rfl) rfl q147 d_Rs_fillWindow_53 ?_
    refine r_aload_n X d_Rs_fillWindow_56 rfl 2 rfl ?_
    obtain ⟨x24, h25, hf⟩ := obind hf
    refine r_ld_R (ci := 7) (k := 0) X h25 (Nat.le_of_ble_eq_true rfl) (Nat.le_of_ble_eq_true rfl) rfl rfl q145 d_Rs_fillWindow_57 ?_
    obtain ⟨x26, h27, hf⟩ := obind hf
    refine r_ld_I (ci := 3) (k := 2) X h27 (Nat.le_of_ble_eq_true rfl) (Nat.le_of_ble_eq_true rfl) (Or.inl rfl) rfl q611 d_Rs_fillWindow_60 ?_
    refine r_iadd X d_Rs_fillWindow_63 ?_
    refine r_aload_n X d_Rs_fillWindow_64 rfl 0 rfl ?_
    obtain ⟨x28, h29, hf⟩ := obind hf
    refine r_ld_I (ci := 8) (k := 4) X h29 (Nat.le_of_ble_eq_true rfl) (Nat.le_of_ble_eq_true rfl) (Or.inl rfl) rfl q170 d_Rs_fillWindow_65 ?_
    refine r_icmp_le (tgt := 72) X d_Rs_fillWindow_68 (by decide) (fun hc30 => ?_) (fun hc30 => ?_)
    · have hf := (if_pos hc30).symm.trans hf
      refine r_aload_n X d_Rs_fillWindow_72 rfl 0 rfl ?_
      refine r_aload_n X d_Rs_fillWindow_73 rfl 2 rfl ?_
      refine r_aload_n X d_Rs_fillWindow_74 rfl 0 rfl ?_
      obtain ⟨x31, h32, hf⟩ := obind hf
      refine r_ld_R (ci := 8) (k := 1) X h32 (Nat.le_of_ble_eq_true rfl) (Nat.le_of_ble_eq_true rfl) rfl rfl q164 d_Rs_fillWindow_75 ?_
      obtain ⟨x34, h33, hf⟩ := obind hf
      obtain ⟨σ36, h35, hf⟩ := obind hf
      refine r_callV (st := []) X [tR w0, tR x31] (ci := 8) h33 (Nat.le_of_ble_eq_true rfl) q395 q396 q397 (c_Rs_moveEarliest v0 w0 x31 h35) q398 q8 y_Rs_moveEarliest_ok rfl ⟨Nat.le_of_ble_eq_true rfl, Nat.le_of_ble_eq_true rfl⟩ (Nat.le_of_ble_eq_true rfl) ⟨Nat.le_of_ble_eq_true rfl, Nat.le_of_ble_eq_true rfl⟩ d_Rs_fillWindow_78 ?_
      refine r_iinc (lv' := [(0, tR v0), (1, tI (v1 + (-1))), (2, tR w0)]) (j := 1) X [1, 0, 2] d_Rs_fillWindow_81 rfl rfl (Nat.le_of_ble_eq_true rfl) rfl ?_
      refine r_goto (tgt := 16) X d_Rs_fillWindow_84 (by decide) ?_
      refine r_widen (kc2 := 0) (ks2 := 0) (Nat.le_of_ble_eq_true rfl) (Nat.le_of_ble_eq_true rfl) ?_
      refine r_sub [0, 1] (lv' := [(0, tR v0), (1, tI (v1 + (-1)))]) rfl ?_
      exact hrec16 v0 (v1 + (-1)) σ36 hf
    · have hf := (if_neg hc30).symm.trans hf
      cases hf
      refine r_widen (kc2 := rm_Rs_fillWindow.cells) (ks2 := rm_Rs_fillWindow.slots) (Nat.le_of_ble_eq_true rfl) (Nat.le_of_ble_eq_true rfl) ?_
      exact r_vret X hret hlk d_Rs_fillWindow_71

def f_Rs_fillWindow_16 (n : Nat)  : Nat → Option Nat → Int32 → Hp → Option Hp
  | 0, _, _, _ => none
  | i + 1, v0, v1, σ =>
    if v1 ≤ 0 then
    (
      some σ)
    else
    (
      Option.bind (ld_R σ v0 8 2) fun x10 =>
      Option.bind (ld_R σ x10 7 0) fun x12 =>
      if x12 = none then
      (
        Option.bind (ld_R σ v0 8 3) fun x15 =>
        f_Rs_fillWindow_41 n (f_Rs_fillWindow_16 n i) v0 v1 x15 σ)
      else
      (
        Option.bind (ld_R σ v0 8 2) fun x37 =>
        f_Rs_fillWindow_41 n (f_Rs_fillWindow_16 n i) v0 v1 x37 σ))
set_option maxRecDepth 100000 in
theorem b_Rs_fillWindow_16 {p : Program} {l : Launch} {e : Env} {s : State} {m : MethodId} {args : Array Value} {below : List Frame} {meth : Method} {c : Code} {DD : DT} {σ0 σz : Hp} (X : CX p s m args c prog_9_method_8_code 3 (dm σ0) DD y_Rs_fillWindow.cls) (hret : meth.sig.returnType = none) (hlk : meth.locks = false) (hnm : meth.name = y_Rs_fillWindow.name) (n : Nat)   : ∀ (i : Nat) (v0 : Option Nat) (v1 : Int32) (σ : Hp) (hf : f_Rs_fillWindow_16 n  i v0 v1 σ = some σz), GG p l e rm_Rs_fillWindow s m args below meth c 3 (dm σ0) DD (MQ below (Post DD σ0 none σz) args s rm_Rs_fillWindow.cells rm_Rs_fillWindow.slots (dm σ0)) 0 0 σ 16 [(0, tR v0), (1, tI v1)] [] := by
  intro i
  induction i with
  | zero => intro v0 v1 σ hf; cases hf
  | succ i ih =>
    intro v0 v1 σ hf
    simp only [f_Rs_fillWindow_16] at hf
    refine r_iload_n X d_Rs_fillWindow_16 rfl 1 rfl ?_
    refine r_if_le (tgt := 87) X d_Rs_fillWindow_17 (by decide) (fun hc9 => ?_) (fun hc9 => ?_)
    · have hf := (if_pos hc9).symm.trans hf
      cases hf
      refine r_widen (kc2 := rm_Rs_fillWindow.cells) (ks2 := rm_Rs_fillWindow.slots) (Nat.le_of_ble_eq_true rfl) (Nat.le_of_ble_eq_true rfl) ?_
      exact r_vret X hret hlk d_Rs_fillWindow_87
    · have hf := (if_neg hc9).symm.trans hf
      refine r_aload_n X d_Rs_fillWindow_20 rfl 0 rfl ?_
      obtain ⟨x10, h11, hf⟩ := obind hf
      refine r_ld_R (ci := 8) (k := 2) X h11 (Nat.le_of_ble_eq_true rfl) (Nat.le_of_ble_eq_true rfl) rfl rfl q166 d_Rs_fillWindow_21 ?_
      obtain ⟨x12, h13, hf⟩ := obind hf
      refine r_ld_R (ci := 7) (k := 0) X h13 (Nat.le_of_ble_eq_true rfl) (Nat.le_of_ble_eq_true rfl) rfl rfl q145 d_Rs_fillWindow_24 ?_
      refine r_ifnull (tgt := 37) X d_Rs_fillWindow_27 (by decide) (fun hc14 => ?_) (fun hc14 => ?_)
      · have hf := (if_pos hc14).symm.trans hf
        refine r_aload_n X d_Rs_fillWindow_37 rfl 0 rfl ?_
        obtain ⟨x15, h16, hf⟩ := obind hf
        refine r_ld_R (ci := 8) (k := 3) X h16 (Nat.le_of_ble_eq_true rfl) (Nat.le_of_ble_eq_true rfl) rfl rfl q168 d_Rs_fillWindow_38 ?_
        refine r_widen (kc2 := 0) (ks2 := 0) (Nat.le_of_ble_eq_true rfl) (Nat.le_of_ble_eq_true rfl) ?_
        refine r_sub [0, 1] (lv' := [(0, tR v0), (1, tI v1)]) rfl ?_
        exact b_Rs_fillWindow_41 X hret hlk hnm n (f_Rs_fillWindow_16 n i) ih v0 v1 x15 σ hf
      · have hf := (if_neg hc14).symm.trans hf
        refine r_aload_n X d_Rs_fillWindow_30 rfl 0 rfl ?_
        obtain ⟨x37, h38, hf⟩ := obind hf
        refine r_ld_R (ci := 8) (k := 2) X h38 (Nat.le_of_ble_eq_true rfl) (Nat.le_of_ble_eq_true rfl) rfl rfl q166 d_Rs_fillWindow_31 ?_
        refine r_goto (tgt := 41) X d_Rs_fillWindow_34 (by decide) ?_
        refine r_widen (kc2 := 0) (ks2 := 0) (Nat.le_of_ble_eq_true rfl) (Nat.le_of_ble_eq_true rfl) ?_
        refine r_sub [0, 1] (lv' := [(0, tR v0), (1, tI v1)]) rfl ?_
        exact b_Rs_fillWindow_41 X hret hlk hnm n (f_Rs_fillWindow_16 n i) ih v0 v1 x37 σ hf

def f_Rs_fillWindow (n : Nat) (v0 : Option Nat) (σ : Hp) : Option Hp :=
  Option.bind (ld_R σ v0 8 2) fun x1 =>
  Option.bind (ld_I σ x1 7 3) fun x3 =>
  Option.bind (ld_R σ v0 8 3) fun x5 =>
  Option.bind (ld_I σ x5 7 3) fun x7 =>
  f_Rs_fillWindow_16 n  n v0 (x3 + x7) σ
set_option maxRecDepth 100000 in
theorem c_Rs_fillWindow {l : Launch} {DD : DT} (n : Nat) (v0 : Option Nat) {σ0 σz : Hp} (hf : f_Rs_fillWindow n v0 σ0 = some σz) : CT l DD y_Rs_fillWindow prog_9_method_8_code 3 none rm_Rs_fillWindow [tR v0] σ0 none σz := by
  refine r_met (by decide) (Nat.le_of_ble_eq_true rfl) ?_
  intro p e s m args below meth c X hret hlk hnm
  unfold f_Rs_fillWindow at hf
  refine r_aload_n X d_Rs_fillWindow_0 rfl 0 rfl ?_
  obtain ⟨x1, h2, hf⟩ := obind hf
  refine r_ld_R (ci := 8) (k := 2) X h2 (Nat.le_of_ble_eq_true rfl) (Nat.le_of_ble_eq_true rfl) rfl rfl q166 d_Rs_fillWindow_1 ?_
  obtain ⟨x3, h4, hf⟩ := obind hf
  refine r_ld_I (ci := 7) (k := 3) X h4 (Nat.le_of_ble_eq_true rfl) (Nat.le_of_ble_eq_true rfl) (Or.inl rfl) rfl q151 d_Rs_fillWindow_4 ?_
  refine r_aload_n X d_Rs_fillWindow_7 rfl 0 rfl ?_
  obtain ⟨x5, h6, hf⟩ := obind hf
  refine r_ld_R (ci := 8) (k := 3) X h6 (Nat.le_of_ble_eq_true rfl) (Nat.le_of_ble_eq_true rfl) rfl rfl q168 d_Rs_fillWindow_8 ?_
  obtain ⟨x7, h8, hf⟩ := obind hf
  refine r_ld_I (ci := 7) (k := 3) X h8 (Nat.le_of_ble_eq_true rfl) (Nat.le_of_ble_eq_true rfl) (Or.inl rfl) rfl q151 d_Rs_fillWindow_11 ?_
  refine r_iadd X d_Rs_fillWindow_14 ?_
  refine r_istore_n (lv' := [(0, tR v0), (1, tI (x3 + x7))]) X [1, 0] d_Rs_fillWindow_15 rfl (Nat.le_of_ble_eq_true rfl) rfl ?_
  refine r_widen (kc2 := 0) (ks2 := 0) (Nat.le_of_ble_eq_true rfl) (Nat.le_of_ble_eq_true rfl) ?_
  refine r_sub [0, 1] (lv' := [(0, tR v0), (1, tI (x3 + x7))]) rfl ?_
  exact b_Rs_fillWindow_16 X hret hlk hnm n   n v0 (x3 + x7) σ0 hf

