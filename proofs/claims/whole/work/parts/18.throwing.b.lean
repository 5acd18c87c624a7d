def f_W_put_20 (n : Nat)   (σ : Hp) : Option ((Int32 ⊕ Nat) × Hp) :=
  some (Sum.inr 0, nw_X σ)
set_option maxRecDepth 100000 in
theorem b_W_put_20 {p : Program} {l : Launch} {e : Env} {s : State} {m : MethodId} {args : Array Value} {below : List Frame} {meth : Method} {c : Code} {DD : DT} {σ0 σz : Hp} {rz : Int32} (X : CX p s m args c prog_1_method_4_code 5 (dm σ0) DD y_W_put.cls) (hret : meth.sig.returnType = some .boolean) (hlk : meth.locks = false) (hnm : meth.name = y_W_put.name) (n : Nat)    (σ : Hp) (hf : f_W_put_20 n   σ = some (Sum.inl rz, σz)) : GG p l e rm_W_put s m args below meth c 5 (dm σ0) DD (MQ below (Post DD σ0 (some (tI rz)) σz) args s rm_W_put.cells rm_W_put.slots (dm σ0)) 0 0 σ 20 [] [] := by
  unfold f_W_put_20 at hf
  cases hf

def f_W_put (n : Nat) (v0 : Option Nat) (v1 : Int32) (v2 : Int32) (v3 : Int32) (v4 : Int32) (σ : Hp) : Option ((Int32 ⊕ Nat) × Hp) :=
  pb (f_W_isKey v1 σ) fun x3 σ2 =>
  if x3 = 0 then
  (
    f_W_put_20 n   σ2)
  else
  (
    pb (f_W_isValue v2 v3 σ2) fun x7 σ6 =>
    if x7 = 0 then
    (
      f_W_put_20 n   σ6)
    else
    (
      if 0 ≤ v4 then
      (
        Option.bind (is_O σ6 v0 0) fun x11 =>
        pb (f_W_store n v0 v1 v2 v3 v4 σ6) fun x14 σ13 =>
        if x14 = 0 ∨ x14 = 1 then some (Sum.inl x14, σ13) else none)
      else
      (
        f_W_put_20 n   σ6)))
set_option maxRecDepth 100000 in
theorem c_W_put {l : Launch} {DD : DT} (n : Nat) (v0 : Option Nat) (v1 : Int32) (v2 : Int32) (v3 : Int32) (v4 : Int32) {σ0 σz : Hp} {rz : Int32} (hf : f_W_put n v0 v1 v2 v3 v4 σ0 = some (Sum.inl rz, σz)) : CT l DD y_W_put prog_1_method_4_code 5 (some .boolean) rm_W_put [tR v0, tI v1, tI v2, tI v3, tI v4] σ0 (some (tI rz)) σz := by
  refine r_met (by decide) (Nat.le_of_ble_eq_true rfl) ?_
  intro p e s m args below meth c X hret hlk hnm
  unfold f_W_put at hf
  refine r_iload_n X d_W_put_0 rfl 1 rfl ?_
  obtain ⟨x3, σ2, h1, hf⟩ := pbind hf
  refine r_callS (st := []) X [tI v1] q271 q272 (c_W_isKey v1 h1) q273 q1 y_W_isKey_ok rfl ⟨Nat.le_of_ble_eq_true rfl, Nat.le_of_ble_eq_true rfl⟩ (Nat.le_of_ble_eq_true rfl) ⟨Nat.le_of_ble_eq_true rfl, Nat.le_of_ble_eq_true rfl⟩ d_W_put_1 ?_
  refine r_if_eq (tgt := 20) X d_W_put_4 (by decide) (fun hc4 => ?_) (fun hc4 => ?_)
  · have hf := (if_pos hc4).symm.trans hf
    refine r_widen (kc2 := 0) (ks2 := 0) (Nat.le_of_ble_eq_true rfl) (Nat.le_of_ble_eq_true rfl) ?_
    refine r_sub [] (lv' := []) rfl ?_
    exact b_W_put_20 X hret hlk hnm n    σ2 hf
  · have hf := (if_neg hc4).symm.trans hf
    refine r_iload_n X d_W_put_7 rfl 2 rfl ?_
    refine r_iload_n X d_W_put_8 rfl 3 rfl ?_
    obtain ⟨x7, σ6, h5, hf⟩ := pbind hf
    refine r_callS (st := []) X [tI v2, tI v3] q520 q521 (c_W_isValue v2 v3 h5) q522 q1 y_W_isValue_ok rfl ⟨Nat.le_of_ble_eq_true rfl, Nat.le_of_ble_eq_true rfl⟩ (Nat.le_of_ble_eq_true rfl) ⟨Nat.le_of_ble_eq_true rfl, Nat.le_of_ble_eq_true rfl⟩ d_W_put_9 ?_
    refine r_if_eq (tgt := 20) X d_W_put_12 (by decide) (fun hc8 => ?_) (fun hc8 => ?_)
    · have hf := (if_pos hc8).symm.trans hf
      refine r_widen (kc2 := 0) (ks2 := 0) (Nat.le_of_ble_eq_true rfl) (Nat.le_of_ble_eq_true rfl) ?_
      refine r_sub [] (lv' := []) rfl ?_
      exact b_W_put_20 X hret hlk hnm n    σ6 hf
    · have hf := (if_neg hc8).symm.trans hf
      refine r_iload X d_W_put_15 4 rfl ?_
      refine r_if_ge (tgt := 28) X d_W_put_17 (by decide) (fun hc9 => ?_) (fun hc9 => ?_)
      · have hf := (if_pos hc9).symm.trans hf
        refine r_aload_n X d_W_put_28 rfl 0 rfl ?_
        refine r_iload_n X d_W_put_29 rfl 1 rfl ?_
        refine r_iload_n X d_W_put_30 rfl 2 rfl ?_
        refine r_iload_n X d_W_put_31 rfl 3 rfl ?_
        refine r_iload X d_W_put_32 4 rfl ?_
        obtain ⟨x11, h10, hf⟩ := obind hf
        obtain ⟨x14, σ13, h12, hf⟩ := pbind hf
        refine r_callV (st := []) X [tI v1, tI v2, tI v3, tI v4] (ci := 0) h10 (Nat.le_of_ble_eq_true rfl) q585 q587 sl14 (c_W_store n v0 v1 v2 v3 v4 h12) q588 q1 y_W_store_ok rfl ⟨Nat.le_of_ble_eq_true rfl, Nat.le_of_ble_eq_true rfl⟩ (Nat.le_of_ble_eq_true rfl) ⟨Nat.le_of_ble_eq_true rfl, Nat.le_of_ble_eq_true rfl⟩ d_W_put_34 ?_
        have hz15 : x14 = 0 ∨ x14 = 1 := Classical.byContradiction fun z => by
          have hf := (if_neg z).symm.trans hf
          cases hf
        have hf := (if_pos hz15).symm.trans hf
        cases hf
        refine r_widen (kc2 := rm_W_put.cells) (ks2 := rm_W_put.slots) (Nat.le_of_ble_eq_true rfl) (Nat.le_of_ble_eq_true rfl) ?_
        exact r_zret X hret hlk hz15 d_W_put_37
      · have hf := (if_neg hc9).symm.trans hf
        refine r_widen (kc2 := 0) (ks2 := 0) (Nat.le_of_ble_eq_true rfl) (Nat.le_of_ble_eq_true rfl) ?_
        refine r_sub [] (lv' := []) rfl ?_
        exact b_W_put_20 X hret hlk hnm n    σ6 hf

set_option maxRecDepth 100000 in
theorem u_W_put_20 {p : Program} {l : Launch} {e : Env} {s : State} {m : MethodId} {args : Array Value} {below : List Frame} {meth : Method} {c : Code} {DD : DT} {σ0 σz : Hp} {kz : Nat} (X : CX p s m args c prog_1_method_4_code 5 (dm σ0) DD y_W_put.cls) (hret : meth.sig.returnType = some .boolean) (hlk : meth.locks = false) (hfl : l.flags = flags0) (hex : c.exceptionTable.toList = []) (n : Nat)    (σ : Hp) (hf : f_W_put_20 n   σ = some (Sum.inr kz, σz)) : GG p l e rm_W_put s m args below meth c 5 (dm σ0) DD (QT below (PostT DD σ0 kz σz rm_W_put.cells rm_W_put.slots) args s) 0 0 σ 20 [] [] := by
  unfold f_W_put_20 at hf
  cases hf
  refine r_widen (kc2 := 0) (ks2 := 5) (Nat.le_of_ble_eq_true rfl) (Nat.le_of_ble_eq_true rfl) ?_
  exact r_throw (k := 0) X hfl hlk hex (by decide) (Nat.le_of_ble_eq_true rfl) (Nat.le_of_ble_eq_true rfl) (Nat.le_of_ble_eq_true rfl) (Nat.le_of_ble_eq_true rfl) q523 q524 q15 d_W_put_20 d_W_put_23 d_W_put_24 d_W_put_27

set_option maxRecDepth 100000 in
theorem t_W_put {l : Launch} (hfl : l.flags = flags0) {DD : DT} (n : Nat) (v0 : Option Nat) (v1 : Int32) (v2 : Int32) (v3 : Int32) (v4 : Int32) {σ0 σz : Hp} {kz : Nat} (hf : f_W_put n v0 v1 v2 v3 v4 σ0 = some (Sum.inr kz, σz)) : TH l DD y_W_put prog_1_method_4_code 5 (some .boolean) rm_W_put [tR v0, tI v1, tI v2, tI v3, tI v4] σ0 kz σz := by
  refine r_metT (by decide) (Nat.le_of_ble_eq_true rfl) ?_
  intro p e s m args below meth c X hret hlk hex
  unfold f_W_put at hf
  refine r_iload_n X d_W_put_0 rfl 1 rfl ?_
  obtain ⟨x3, σ2, h1, hf⟩ := pbind hf
  refine r_callS (st := []) X [tI v1] q271 q272 (c_W_isKey v1 h1) q273 q1 y_W_isKey_ok rfl ⟨Nat.le_of_ble_eq_true rfl, Nat.le_of_ble_eq_true rfl⟩ (Nat.le_of_ble_eq_true rfl) ⟨Nat.le_of_ble_eq_true rfl, Nat.le_of_ble_eq_true rfl⟩ d_W_put_1 ?_
  refine r_if_eq (tgt := 20) X d_W_put_4 (by decide) (fun hc4 => ?_) (fun hc4 => ?_)
  · have hf := (if_pos hc4).symm.trans hf
    refine r_widen (kc2 := 0) (ks2 := 0) (Nat.le_of_ble_eq_true rfl) (Nat.le_of_ble_eq_true rfl) ?_
    refine r_sub [] (lv' := []) rfl ?_
    exact u_W_put_20 X hret hlk hfl hex n    σ2 hf
  · have hf := (if_neg hc4).symm.trans hf
    refine r_iload_n X d_W_put_7 rfl 2 rfl ?_
    refine r_iload_n X d_W_put_8 rfl 3 rfl ?_
    obtain ⟨x7, σ6, h5, hf⟩ := pbind hf
    refine r_callS (st := []) X [tI v2, tI v3] q520 q521 (c_W_isValue v2 v3 h5) q522 q1 y_W_isValue_ok rfl ⟨Nat.le_of_ble_eq_true rfl, Nat.le_of_ble_eq_true rfl⟩ (Nat.le_of_ble_eq_true rfl) ⟨Nat.le_of_ble_eq_true rfl, Nat.le_of_ble_eq_true rfl⟩ d_W_put_9 ?_
    refine r_if_eq (tgt := 20) X d_W_put_12 (by decide) (fun hc8 => ?_) (fun hc8 => ?_)
    · have hf := (if_pos hc8).symm.trans hf
      refine r_widen (kc2 := 0) (ks2 := 0) (Nat.le_of_ble_eq_true rfl) (Nat.le_of_ble_eq_true rfl) ?_
      refine r_sub [] (lv' := []) rfl ?_
      exact u_W_put_20 X hret hlk hfl hex n    σ6 hf
    · have hf := (if_neg hc8).symm.trans hf
      refine r_iload X d_W_put_15 4 rfl ?_
      refine r_if_ge (tgt := 28) X d_W_put_17 (by decide) (fun hc9 => ?_) (fun hc9 => ?_)
      · have hf := (if_pos hc9).symm.trans hf
        refine r_aload_n X d_W_put_28 rfl 0 rfl ?_
        refine r_iload_n X d_W_put_29 rfl 1 rfl ?_
        refine r_iload_n X d_W_put_30 rfl 2 rfl ?_
        refine r_iload_n X d_W_put_31 rfl 3 rfl ?_
        refine r_iload X d_W_put_32 4 rfl ?_
        obtain ⟨x11, h10, hf⟩ := obind hf
        obtain ⟨x14, σ13, h12, hf⟩ := pbind hf
        refine r_callV (st := []) X [tI v1, tI v2, tI v3, tI v4] (ci := 0) h10 (Nat.le_of_ble_eq_true rfl) q585 q587 sl14 (c_W_store n v0 v1 v2 v3 v4 h12) q588 q1 y_W_store_ok rfl ⟨Nat.le_of_ble_eq_true rfl, Nat.le_of_ble_eq_true rfl⟩ (Nat.le_of_ble_eq_true rfl) ⟨Nat.le_of_ble_eq_true rfl, Nat.le_of_ble_eq_true rfl⟩ d_W_put_34 ?_
        have hz15 : x14 = 0 ∨ x14 = 1 := Classical.byContradiction fun z => by
          have hf := (if_neg z).symm.trans hf
          cases hf
        have hf := (if_pos hz15).symm.trans hf
        cases hf
      · have hf := (if_neg hc9).symm.trans hf
        refine r_widen (kc2 := 0) (ks2 := 0) (Nat.le_of_ble_eq_true rfl) (Nat.le_of_ble_eq_true rfl) ?_
        refine r_sub [] (lv' := []) rfl ?_
        exact u_W_put_20 X hret hlk hfl hex n    σ6 hf

def f_W_load (v0 : Option Nat) (v1 : Int32) (σ : Hp) : Option ((Int32 ⊕ Nat) × Hp) :=
  pb (f_W_isKey v1 σ) fun x3 σ2 =>
  if x3 = 0 then
  (
    some (Sum.inr 0, nw_X σ2))
  else
  (
    Option.bind (is_O σ2 v0 0) fun x6 =>
    pb (f_W_ask v0 v1 σ2) fun x9 σ8 =>
    if x9 = ((-1)) then
    (
      Option.bind (ld_R σ8 v0 0 1) fun x11 =>
      Option.bind (al_R σ8 4 x11 v1) fun x13 =>
      if x13 = none then
      (
        Option.bind (ld_R σ8 v0 0 1) fun x16 =>
        Option.bind (f_Wa_init (some (hp_N σ8)) none 0 (nw_O σ8 10)) fun σ19 =>
        Option.bind (as_R σ19 4 10 x16 v1 (some (hp_N σ8))) fun σ20 =>
        some (Sum.inl ((-2)), σ20))
      else
      (
        some (Sum.inr 1, nw_X σ8)))
    else
    (
      some (Sum.inl x9, σ8)))
set_option maxRecDepth 100000 in
theorem c_W_load {l : Launch} {DD : DT} (v0 : Option Nat) (v1 : Int32) {σ0 σz : Hp} {rz : Int32} (hf : f_W_load v0 v1 σ0 = some (Sum.inl rz, σz)) : CT l DD y_W_load prog_1_method_6_code 3 (some .int) rm_W_load [tR v0, tI v1] σ0 (some (tI rz)) σz := by
  refine r_met (by decide) (Nat.le_of_ble_eq_true rfl) ?_
  intro p e s m args below meth c X hret hlk hnm
  unfold f_W_load at hf
  refine r_iload_n X d_W_load_0 rfl 1 rfl ?_
  obtain ⟨x3, σ2, h1, hf⟩ := pbind hf
  refine r_callS (st := []) X [tI v1] q271 q272 (c_W_isKey v1 h1) q273 q1 y_W_isKey_ok rfl ⟨Nat.le_of_ble_eq_true rfl, Nat.le_of_ble_eq_true rfl⟩ (Nat.le_of_ble_eq_true rfl) ⟨Nat.le_of_ble_eq_true rfl, Nat.le_of_ble_eq_true rfl⟩ d_W_load_1 ?_
  refine r_if_ne (tgt := 15) X d_W_load_4 (by decide) (fun hc4 => ?_) (fun hc4 => ?_)
  · have hf := (if_neg hc4).symm.trans hf
    refine r_aload_n X d_W_load_15 rfl 0 rfl ?_
    refine r_iload_n X d_W_load_16 rfl 1 rfl ?_
    obtain ⟨x6, h5, hf⟩ := obind hf
    obtain ⟨x9, σ8, h7, hf⟩ := pbind hf
    refine r_callV (st := []) X [tI v1] (ci := 0) h5 (Nat.le_of_ble_eq_true rfl) q274 q276 sl0 (c_W_ask v0 v1 h7) q277 q1 y_W_ask_ok rfl ⟨Nat.le_of_ble_eq_true rfl, Nat.le_of_ble_eq_true rfl⟩ (Nat.le_of_ble_eq_true rfl) ⟨Nat.le_of_ble_eq_true rfl, Nat.le_of_ble_eq_true rfl⟩ d_W_load_17 ?_
    refine r_istore_n (lv' := [(0, tR v0), (1, tI v1), (2, tI x9)]) X [1, 2, 0] d_W_load_20 rfl (Nat.le_of_ble_eq_true rfl) rfl ?_
    refine r_iload_n X d_W_load_21 rfl 2 rfl ?_
    refine r_iconst (v := -1) X d_W_load_22 (by decide) ?_
    refine r_icmp_eq (tgt := 28) X d_W_load_23 (by decide) (fun hc10 => ?_) (fun hc10 => ?_)
    · have hf := (if_pos hc10).symm.trans hf
      refine r_aload_n X d_W_load_28 rfl 0 rfl ?_
      obtain ⟨x11, h12, hf⟩ := obind hf
      refine r_ld_R (ci := 0) (k := 1) X h12 (Nat.le_of_ble_eq_true rfl) (Nat.le_of_ble_eq_true rfl) rfl rfl q222 d_W_load_29 ?_
      refine r_iload_n X d_W_load_32 rfl 1 rfl ?_
      obtain ⟨x13, h14, hf⟩ := obind hf
      refine r_al_W X h14 d_W_load_33 ?_
      refine r_ifnull (tgt := 45) X d_W_load_34 (by decide) (fun hc15 => ?_) (fun hc15 => ?_)
      · have hf := (if_pos hc15).symm.trans hf
        refine r_aload_n X d_W_load_45 rfl 0 rfl ?_
        obtain ⟨x16, h17, hf⟩ := obind hf
        refine r_ld_R (ci := 0) (k := 1) X h17 (Nat.le_of_ble_eq_true rfl) (Nat.le_of_ble_eq_true rfl) rfl rfl q222 d_W_load_46 ?_
        refine r_iload_n X d_W_load_49 rfl 1 rfl ?_
        refine r_new (ci := 10) X (Nat.le_of_ble_eq_true rfl) q30 q453 q19 (Nat.le_of_ble_eq_true rfl) (Nat.le_of_ble_eq_true rfl) d_W_load_50 ?_
        refine r_dup X d_W_load_53 rfl ?_
        refine r_null X d_W_load_54 ?_
        refine r_iconst (v := 0) X d_W_load_55 (by decide) ?_
        obtain ⟨σ19, h18, hf⟩ := obind hf
        refine r_callI (ret := none) (st := [tR (some (hp_N σ8)), tI v1, tR x16]) X [tR none, tI 0] rfl q454 q455 rfl (c_Wa_init (some (hp_N σ8)) none 0 h18) q456 q19 y_Wa_init_ok rfl ⟨Nat.le_of_ble_eq_true rfl, Nat.le_of_ble_eq_true rfl⟩ (Nat.le_of_ble_eq_true rfl) ⟨Nat.le_of_ble_eq_true rfl, Nat.le_of_ble_eq_true rfl⟩ d_W_load_56 ?_
        obtain ⟨σ20, h21, hf⟩ := obind hf
        refine r_as_W X h21 d_W_load_59 ?_
        refine r_bipush (v := -2) X d_W_load_60 (by decide) ?_
        cases hf
        refine r_widen (kc2 := rm_W_load.cells) (ks2 := rm_W_load.slots) (Nat.le_of_ble_eq_true rfl) (Nat.le_of_ble_eq_true rfl) ?_
        exact r_iret X hret hlk d_W_load_62
      · have hf := (if_neg hc15).symm.trans hf
        cases hf
    · have hf := (if_neg hc10).symm.trans hf
      refine r_iload_n X d_W_load_26 rfl 2 rfl ?_
      cases hf
      refine r_widen (kc2 := rm_W_load.cells) (ks2 := rm_W_load.slots) (Nat.le_of_ble_eq_true rfl) (Nat.le_of_ble_eq_true rfl) ?_
      exact r_iret X hret hlk d_W_load_27
  · have hf := (if_pos hc4).symm.trans hf
    cases hf

set_option maxRecDepth 100000 in
theorem t_W_load {l : Launch} (hfl : l.flags = flags0) {DD : DT} (v0 : Option Nat) (v1 : Int32) {σ0 σz : Hp} {kz : Nat} (hf : f_W_load v0 v1 σ0 = some (Sum.inr kz, σz)) : TH l DD y_W_load prog_1_method_6_code 3 (some .int) rm_W_load [tR v0, tI v1] σ0 kz σz := by
  refine r_metT (by decide) (Nat.le_of_ble_eq_true rfl) ?_
  intro p e s m args below meth c X hret hlk hex
  unfold f_W_load at hf
  refine r_iload_n X d_W_load_0 rfl 1 rfl ?_
  obtain ⟨x3, σ2, h1, hf⟩ := pbind hf
  refine r_callS (st := []) X [tI v1] q271 q272 (c_W_isKey v1 h1) q273 q1 y_W_isKey_ok rfl ⟨Nat.le_of_ble_eq_true rfl, Nat.le_of_ble_eq_true rfl⟩ (Nat.le_of_ble_eq_true rfl) ⟨Nat.le_of_ble_eq_true rfl, Nat.le_of_ble_eq_true rfl⟩ d_W_load_1 ?_
  refine r_if_ne (tgt := 15) X d_W_load_4 (by decide) (fun hc4 => ?_) (fun hc4 => ?_)
  · have hf := (if_neg hc4).symm.trans hf
    refine r_aload_n X d_W_load_15 rfl 0 rfl ?_
    refine r_iload_n X d_W_load_16 rfl 1 rfl ?_
    obtain ⟨x6, h5, hf⟩ := obind hf
    obtain ⟨x9, σ8, h7, hf⟩ := pbind hf
    refine r_callV (st := []) X [tI v1] (ci := 0) h5 (Nat.le_of_ble_eq_true rfl) q274 q276 sl0 (c_W_ask v0 v1 h7) q277 q1 y_W_ask_ok rfl ⟨Nat.le_of_ble_eq_true rfl, Nat.le_of_ble_eq_true rfl⟩ (Nat.le_of_ble_eq_true rfl) ⟨Nat.le_of_ble_eq_true rfl, Nat.le_of_ble_eq_true rfl⟩ d_W_load_17 ?_
    refine r_istore_n (lv' := [(0, tR v0), (1, tI v1), (2, tI x9)]) X [1, 2, 0] d_W_load_20 rfl (Nat.le_of_ble_eq_true rfl) rfl ?_
    refine r_iload_n X d_W_load_21 rfl 2 rfl ?_
    refine r_iconst (v := -1) X d_W_load_22 (by decide) ?_
    refine r_icmp_eq (tgt := 28) X d_W_load_23 (by decide) (fun hc10 => ?_) (fun hc10 => ?_)
    · have hf := (if_pos hc10).symm.trans hf
      refine r_aload_n X d_W_load_28 rfl 0 rfl ?_
      obtain ⟨x11, h12, hf⟩ := obind hf
      refine r_ld_R (ci := 0) (k := 1) X h12 (Nat.le_of_ble_eq_true rfl) (Nat.le_of_ble_eq_true rfl) rfl rfl q222 d_W_load_29 ?_
      refine r_iload_n X d_W_load_32 rfl 1 rfl ?_
      obtain ⟨x13, h14, hf⟩ := obind hf
      refine r_al_W X h14 d_W_load_33 ?_
      refine r_ifnull (tgt := 45) X d_W_load_34 (by decide) (fun hc15 => ?_) (fun hc15 => ?_)
      · have hf := (if_pos hc15).symm.trans hf
        refine r_aload_n X d_W_load_45 rfl 0 rfl ?_
        obtain ⟨x16, h17, hf⟩ := obind hf
        refine r_ld_R (ci := 0) (k := 1) X h17 (Nat.le_of_ble_eq_true rfl) (Nat.le_of_ble_eq_true rfl) rfl rfl q222 d_W_load_46 ?_
        refine r_iload_n X d_W_load_49 rfl 1 rfl ?_
        refine r_new (ci := 10) X (Nat.le_of_ble_eq_true rfl) q30 q453 q19 (Nat.le_of_ble_eq_true rfl) (Nat.le_of_ble_eq_true rfl) d_W_load_50 ?_
        refine r_dup X d_W_load_53 rfl ?_
        refine r_null X d_W_load_54 ?_
        refine r_iconst (v := 0) X d_W_load_55 (by decide) ?_
        obtain ⟨σ19, h18, hf⟩ := obind hf
        refine r_callI (ret := none) (st := [tR (some (hp_N σ8)), tI v1, tR x16]) X [tR none, tI 0] rfl q454 q455 rfl (c_Wa_init (some (hp_N σ8)) none 0 h18) q456 q19 y_Wa_init_ok rfl ⟨Nat.le_of_ble_eq_true rfl, Nat.le_of_ble_eq_true rfl⟩ (Nat.le_of_ble_eq_true rfl) ⟨Nat.le_of_ble_eq_true rfl, Nat.le_of_ble_eq_true rfl⟩ d_W_load_56 ?_
        obtain ⟨σ20, h21, hf⟩ := obind hf
        refine r_as_W X h21 d_W_load_59 ?_
        refine r_bipush (v := -2) X d_W_load_60 (by decide) ?_
        cases hf
      · have hf := (if_neg hc15).symm.trans hf
        cases hf
        refine r_widen (kc2 := 0) (ks2 := 0) (Nat.le_of_ble_eq_true rfl) (Nat.le_of_ble_eq_true rfl) ?_
        exact r_throw (k := 1) X hfl hlk hex (by decide) (Nat.le_of_ble_eq_true rfl) (Nat.le_of_ble_eq_true rfl) (Nat.le_of_ble_eq_true rfl) (Nat.le_of_ble_eq_true rfl) q656 q657 q18 d_W_load_37 d_W_load_40 d_W_load_41 d_W_load_44
    · have hf := (if_neg hc10).symm.trans hf
      refine r_iload_n X d_W_load_26 rfl 2 rfl ?_
      cases hf
  · have hf := (if_pos hc4).symm.trans hf
    cases hf
    refine r_widen (kc2 := 0) (ks2 := 0) (Nat.le_of_ble_eq_true rfl) (Nat.le_of_ble_eq_true rfl) ?_
    exact r_throw (k := 0) X hfl hlk hex (by decide) (Nat.le_of_ble_eq_true rfl) (Nat.le_of_ble_eq_true rfl) (Nat.le_of_ble_eq_true rfl) (Nat.le_of_ble_eq_true rfl) q523 q524 q15 d_W_load_7 d_W_load_10 d_W_load_11 d_W_load_14

def f_W_finish_17 (n : Nat)  (v0 : Option Nat) (v1 : Int32) (v2 : Int32) (v3 : Int32) (w0 : Option Nat) (σ : Hp) : Option ((Int32 ⊕ Nat) × Hp) :=
  if w0 = none then
  (
    some (Sum.inr 1, nw_X σ))
  else
  (
    pb (f_W_isValue v2 v3 σ) fun x8 σ7 =>
    if x8 = 0 then
    (
      some (Sum.inr 0, nw_X σ7))
    else
    (
      Option.bind (ld_R σ7 v0 0 1) fun x10 =>
      Option.bind (as_R σ7 4 10 x10 v1 none) fun σ12 =>
      Option.bind (ld_I σ12 v0 0 11) fun x14 =>
      Option.bind (st_I σ12 v0 0 11 (x14 + 1)) fun σ16 =>
      Option.bind (is_O σ16 v0 0) fun x19 =>
      pb (f_W_isWelcome v0 w0 v1 σ16) fun x22 σ21 =>
      if x22 = 0 then
      (
        some (Sum.inl 0, σ21))
      else
      (
        Option.bind (is_O σ21 v0 0) fun x25 =>
        pb (f_W_store n v0 v1 v2 v3 0 σ21) fun x28 σ27 =>
        some (Sum.inl 1, σ27))))
set_option maxRecDepth 100000 in
theorem b_W_finish_17 {p : Program} {l : Launch} {e : Env} {s : State} {m : MethodId} {args : Array Value} {below : List Frame} {meth : Method} {c : Code} {DD : DT} {σ0 σz : Hp} {rz : Int32} (X : CX p s m args c prog_1_method_8_code 5 (dm σ0) DD y_W_finish.cls) (hret : meth.sig.returnType = some .boolean) (hlk : meth.locks = false) (hnm : meth.name = y_W_finish.name) (n : Nat)   (v0 : Option Nat) (v1 : Int32) (v2 : Int32) (v3 : Int32) (w0 : Option Nat) (σ : Hp) (hf : f_W_finish_17 n  v0 v1 v2 v3 w0 σ = some (Sum.inl rz, σz)) : GG p l e rm_W_finish s m args below meth c 5 (dm σ0) DD (MQ below (Post DD σ0 (some (tI rz)) σz) args s rm_W_finish.cells rm_W_finish.slots (dm σ0)) 0 0 σ 17 [(0, tR v0), (1, tI v1), (2, tI v2), (3, tI v3)] [tR w0] := by
  unfold f_W_finish_17 at hf
  refine r_astore (lv' := [(0, tR v0), (1, tI v1), (2, tI v2), (3, tI v3), (4, tR w0)]) X [1, 2, 3, 4, 0] d_W_finish_17 (Nat.le_of_ble_eq_true rfl) rfl ?_
  refine r_aload X d_W_finish_19 4 rfl ?_
  refine r_ifnonnull (tgt := 32) X d_W_finish_21 (by decide) (fun hc5 => ?_) (fun hc5 => ?_)
  · have hf := (if_neg hc5).symm.trans hf
    refine r_iload_n X d_W_finish_32 rfl 2 rfl ?_
    refine r_iload_n X d_W_finish_33 rfl 3 rfl ?_
    obtain ⟨x8, σ7, h6, hf⟩ := pbind hf
    refine r_callS (st := []) X [tI v2, tI v3] q520 q521 (c_W_isValue v2 v3 h6) q522 q1 y_W_isValue_ok rfl ⟨Nat.le_of_ble_eq_true rfl, Nat.le_of_ble_eq_true rfl⟩ (Nat.le_of_ble_eq_true rfl) ⟨Nat.le_of_ble_eq_true rfl, Nat.le_of_ble_eq_true rfl⟩ d_W_finish_34 ?_
    refine r_if_ne (tgt := 48) X d_W_finish_37 (by decide) (fun hc9 => ?_) (fun hc9 => ?_)
    · have hf := (if_neg hc9).symm.trans hf
      refine r_aload_n X d_W_finish_48 rfl 0 rfl ?_
      obtain ⟨x10, h11, hf⟩ := obind hf
      refine r_ld_R (ci := 0) (k := 1) X h11 (Nat.le_of_ble_eq_true rfl) (Nat.le_of_ble_eq_true rfl) rfl rfl q222 d_W_finish_49 ?_
      refine r_iload_n X d_W_finish_52 rfl 1 rfl ?_
      refine r_null X d_W_finish_53 ?_
      obtain ⟨σ12, h13, hf⟩ := obind hf
      refine r_as_W X h13 d_W_finish_54 ?_
      refine r_aload_n X d_W_finish_55 rfl 0 rfl ?_
      refine r_dup X d_W_finish_56 rfl ?_
      obtain ⟨x14, h15, hf⟩ := obind hf
      refine r_ld_I (ci := 0) (k := 11) X h15 (Nat.le_of_ble_eq_true rfl) (Nat.le_of_ble_eq_true rfl) (Or.inl rfl) rfl q232 d_W_finish_57 ?_
      refine r_iconst (v := 1) X d_W_finish_60 (by decide) ?_
      refine r_iadd X d_W_finish_61 ?_
      obtain ⟨σ16, h17, hf⟩ := obind hf
      refine r_st_I (ci := 0) (k := 11) X h17 (Nat.le_of_ble_eq_true rfl) (Nat.le_of_ble_eq_true rfl) rfl rfl rfl q232 d_W_finish_62 ?_
      refine r_aload_n X d_W_finish_65 rfl 0 rfl ?_
      refine r_aload X d_W_finish_66 4 rfl ?_
      refine r_iload_n X d_W_finish_68 rfl 1 rfl ?_
      obtain ⟨x19, h18, hf⟩ := obind hf
      obtain ⟨x22, σ21, h20, hf⟩ := pbind hf
      refine r_callV (st := []) X [tR w0, tI v1] (ci := 0) h18 (Nat.le_of_ble_eq_true rfl) q678 q680 sl16 (c_W_isWelcome v0 w0 v1 h20) q681 q1 y_W_isWelcome_ok rfl ⟨Nat.le_of_ble_eq_true rfl, Nat.le_of_ble_eq_true rfl⟩ (Nat.le_of_ble_eq_true rfl) ⟨Nat.le_of_ble_eq_true rfl, Nat.le_of_ble_eq_true rfl⟩ d_W_finish_69 ?_
      refine r_if_ne (tgt := 77) X d_W_finish_72 (by decide) (fun hc23 => ?_) (fun hc23 => ?_)
      · have hf := (if_neg hc23).symm.trans hf
        refine r_aload_n X d_W_finish_77 rfl 0 rfl ?_
        refine r_iload_n X d_W_finish_78 rfl 1 rfl ?_
        refine r_iload_n X d_W_finish_79 rfl 2 rfl ?_
        refine r_iload_n X d_W_finish_80 rfl 3 rfl ?_
        refine r_iconst (v := 0) X d_W_finish_81 (by decide) ?_
        obtain ⟨x25, h24, hf⟩ := obind hf
        obtain ⟨x28, σ27, h26, hf⟩ := pbind hf
        refine r_callV (st := []) X [tI v1, tI v2, tI v3, tI 0] (ci := 0) h24 (Nat.le_of_ble_eq_true rfl) q585 q587 sl14 (c_W_store n v0 v1 v2 v3 0 h26) q588 q1 y_W_store_ok rfl ⟨Nat.le_of_ble_eq_true rfl, Nat.le_of_ble_eq_true rfl⟩ (Nat.le_of_ble_eq_true rfl) ⟨Nat.le_of_ble_eq_true rfl, Nat.le_of_ble_eq_true rfl⟩ d_W_finish_82 ?_
        refine r_pop X d_W_finish_85 rfl ?_
        refine r_iconst (v := 1) X d_W_finish_86 (by decide) ?_
        cases hf
        refine r_widen (kc2 := rm_W_finish.cells) (ks2 := rm_W_finish.slots) (Nat.le_of_ble_eq_true rfl) (Nat.le_of_ble_eq_true rfl) ?_
        exact r_zret X hret hlk (by decide) d_W_finish_87
      · have hf := (if_pos hc23).symm.trans hf
        refine r_iconst (v := 0) X d_W_finish_75 (by decide) ?_
        cases hf
        refine r_widen (kc2 := rm_W_finish.cells) (ks2 := rm_W_finish.slots) (Nat.le_of_ble_eq_true rfl) (Nat.le_of_ble_eq_true rfl) ?_
        exact r_zret X hret hlk (by decide) d_W_finish_76
    · have hf := (if_pos hc9).symm.trans hf
      cases hf
  · have hf := (if_pos hc5).symm.trans hf
    cases hf

def f_W_finish (n : Nat) (v0 : Option Nat) (v1 : Int32) (v2 : Int32) (v3 : Int32) (σ : Hp) : Option ((Int32 ⊕ Nat) × Hp) :=
  pb (f_W_isKey v1 σ) fun x3 σ2 =>
  if x3 = 0 then
  (
    f_W_finish_17 n  v0 v1 v2 v3 none σ2)
  else
  (
    Option.bind (ld_R σ2 v0 0 1) fun x29 =>
    Option.bind (al_R σ2 4 x29 v1) fun x31 =>
    f_W_finish_17 n  v0 v1 v2 v3 x31 σ2)
set_option maxRecDepth 100000 in
theorem c_W_finish {l : Launch} {DD : DT} (n : Nat) (v0 : Option Nat) (v1 : Int32) (v2 : Int32) (v3 : Int32) {σ0 σz : Hp} {rz : Int32} (hf : f_W_finish n v0 v1 v2 v3 σ0 = some (Sum.inl rz, σz)) : CT l DD y_W_finish prog_1_method_8_code 5 (some .boolean) rm_W_finish [tR v0, tI v1, tI v2, tI v3] σ0 (some (tI rz)) σz := by
  refine r_met (by decide) (Nat.le_of_ble_eq_true rfl) ?_
  intro p e s m args below meth c X hret hlk hnm
  unfold f_W_finish at hf
  refine r_iload_n X d_W_finish_0 rfl 1 rfl ?_
  obtain ⟨x3, σ2, h1, hf⟩ := pbind hf
  refine r_callS (st := []) X [tI v1] q271 q272 (c_W_isKey v1 h1) q273 q1 y_W_isKey_ok rfl ⟨Nat.le_of_ble_eq_true rfl, Nat.le_of_ble_eq_true rfl⟩ (Nat.le_of_ble_eq_true rfl) ⟨Nat.le_of_ble_eq_true rfl, Nat.le_of_ble_eq_true rfl⟩ d_W_finish_1 ?_
  refine r_if_eq (tgt := 16) X d_W_finish_4 (by decide) (fun hc4 => ?_) (fun hc4 => ?_)
  · have hf := (if_pos hc4).symm.trans hf
    refine r_null X d_W_finish_16 ?_
    refine r_widen (kc2 := 0) (ks2 := 0) (Nat.le_of_ble_eq_true rfl) (Nat.le_of_ble_eq_true rfl) ?_
    refine r_sub [0, 1, 2, 3] (lv' := [(0, tR v0), (1, tI v1), (2, tI v2), (3, tI v3)]) rfl ?_
    exact b_W_finish_17 X hret hlk hnm n   v0 v1 v2 v3 none σ2 hf
  · have hf := (if_neg hc4).symm.trans hf
    refine r_aload_n X d_W_finish_7 rfl 0 rfl ?_
    obtain ⟨x29, h30, hf⟩ := obind hf
    refine r_ld_R (ci := 0) (k := 1) X h30 (Nat.le_of_ble_eq_true rfl) (Nat.le_of_ble_eq_true rfl) rfl rfl q222 d_W_finish_8 ?_
    refine r_iload_n X d_W_finish_11 rfl 1 rfl ?_
    obtain ⟨x31, h32, hf⟩ := obind hf
    refine r_al_W X h32 d_W_finish_12 ?_
    refine r_goto (tgt := 17) X d_W_finish_13 (by decide) ?_
    refine r_widen (kc2 := 0) (ks2 := 0) (Nat.le_of_ble_eq_true rfl) (Nat.le_of_ble_eq_true rfl) ?_
    refine r_sub [0, 1, 2, 3] (lv' := [(0, tR v0), (1, tI v1), (2, tI v2), (3, tI v3)]) rfl ?_
    exact b_W_finish_17 X hret hlk hnm n   v0 v1 v2 v3 x31 σ2 hf

set_option maxRecDepth 100000 in
theorem u_W_finish_17 {p : Program} {l : Launch} {e : Env} {s : State} {m : MethodId} {args : Array Value} {below : List Frame} {meth : Method} {c : Code} {DD : DT} {σ0 σz : Hp} {kz : Nat} (X : CX p s m args c prog_1_method_8_code 5 (dm σ0) DD y_W_finish.cls) (hret : meth.sig.returnType = some .boolean) (hlk : meth.locks = false) (hfl : l.flags = flags0) (hex : c.exceptionTable.toList = []) (n : Nat)   (v0 : Option Nat) (v1 : Int32) (v2 : Int32) (v3 : Int32) (w0 : Option Nat) (σ : Hp) (hf : f_W_finish_17 n  v0 v1 v2 v3 w0 σ = some (Sum.inr kz, σz)) : GG p l e rm_W_finish s m args below meth c 5 (dm σ0) DD (QT below (PostT DD σ0 kz σz rm_W_finish.cells rm_W_finish.slots) args s) 0 0 σ 17 [(0, tR v0), (1, tI v1), (2, tI v2), (3, tI v3)] [tR w0] := by
  unfold f_W_finish_17 at hf
  refine r_astore (lv' := [(0, tR v0), (1, tI v1), (2, tI v2), (3, tI v3), (4, tR w0)]) X [1, 2, 3, 4, 0] d_W_finish_17 (Nat.le_of_ble_eq_true rfl) rfl ?_
  refine r_aload X d_W_finish_19 4 rfl ?_
  refine r_ifnonnull (tgt := 32) X d_W_finish_21 (by decide) (fun hc5 => ?_) (fun hc5 => ?_)
  · have hf := (if_neg hc5).symm.trans hf
    refine r_iload_n X d_W_finish_32 rfl 2 rfl ?_
    refine r_iload_n X d_W_finish_33 rfl 3 rfl ?_
    obtain ⟨x8, σ7, h6, hf⟩ := pbind hf
    refine r_callS (st := []) X [tI v2, tI v3] q520 q521 (c_W_isValue v2 v3 h6) q522 q1 y_W_isValue_ok rfl ⟨Nat.le_of_ble_eq_true rfl, Nat.le_of_ble_eq_true rfl⟩ (Nat.le_of_ble_eq_true rfl) ⟨Nat.le_of_ble_eq_true rfl, Nat.le_of_ble_eq_true rfl⟩ d_W_finish_34 ?_
    refine r_if_ne (tgt := 48) X d_W_finish_37 (by decide) (fun hc9 => ?_) (fun hc9 => ?_)
    · have hf := (if_neg hc9).symm.trans hf
      refine r_aload_n X d_W_finish_48 rfl 0 rfl ?_
      obtain ⟨x10, h11, hf⟩ := obind hf
      refine r_ld_R (ci := 0) (k := 1) X h11 (Nat.le_of_ble_eq_true rfl) (Nat.le_of_ble_eq_true rfl) rfl rfl q222 d_W_finish_49 ?_
      refine r_iload_n X d_W_finish_52 rfl 1 rfl ?_
      refine r_null X d_W_finish_53 ?_
      obtain ⟨σ12, h13, hf⟩ := obind hf
      refine r_as_W X h13 d_W_finish_54 ?_
      refine r_aload_n X d_W_finish_55 rfl 0 rfl ?_
      refine r_dup X d_W_finish_56 rfl ?_
      obtain ⟨x14, h15, hf⟩ := obind hf
      refine r_ld_I (ci := 0) (k := 11) X h15 (Nat.le_of_ble_eq_true rfl) (Nat.le_of_ble_eq_true rfl) (Or.inl rfl) rfl q232 d_W_finish_57 ?_
      refine r_iconst (v := 1) X d_W_finish_60 (by decide) ?_
      refine r_iadd X d_W_finish_61 ?_
      obtain ⟨σ16, h17, hf⟩ := obind hf
      refine r_st_I (ci := 0) (k := 11) X h17 (Nat.le_of_ble_eq_true rfl) (Nat.le_of_ble_eq_true rfl) rfl rfl rfl q232 d_W_finish_62 ?_
      refine r_aload_n X d_W_finish_65 rfl 0 rfl ?_
      refine r_aload X d_W_finish_66 4 rfl ?_
      refine r_iload_n X d_W_finish_68 rfl 1 rfl ?_
      obtain ⟨x19, h18, hf⟩ := obind hf
      obtain ⟨x22, σ21, h20, hf⟩ := pbind hf
      refine r_callV (st := []) X [tR w0, tI v1] (ci := 0) h18 (Nat.le_of_ble_eq_true rfl) q678 q680 sl16 (c_W_isWelcome v0 w0 v1 h20) q681 q1 y_W_isWelcome_ok rfl ⟨Nat.le_of_ble_eq_true rfl, Nat.le_of_ble_eq_true rfl⟩ (Nat.le_of_ble_eq_true rfl) ⟨Nat.le_of_ble_eq_true rfl, Nat.le_of_ble_eq_true rfl⟩ d_W_finish_69 ?_
      refine r_if_ne (tgt := 77) X d_W_finish_72 (by decide) (fun hc23 => ?_) (fun hc23 => ?_)
      · have hf := (if_neg hc23).symm.trans hf
        refine r_aload_n X d_W_finish_77 rfl 0 rfl ?_
        refine r_iload_n X d_W_finish_78 rfl 1 rfl ?_
        refine r_iload_n X d_W_finish_79 rfl 2 rfl ?_
        refine r_iload_n X d_W_finish_80 rfl 3 rfl ?_
        refine r_iconst (v := 0) X d_W_finish_81 (by decide) ?_
        obtain ⟨x25, h24, hf⟩ := obind hf
        obtain ⟨x28, σ27, h26, hf⟩ := pbind hf
        refine r_callV (st := []) X [tI v1, tI v2, tI v3, tI 0] (ci := 0) h24 (Nat.le_of_ble_eq_true rfl) q585 q587 sl14 (c_W_store n v0 v1 v2 v3 0 h26) q588 q1 y_W_store_ok rfl ⟨Nat.le_of_ble_eq_true rfl, Nat.le_of_ble_eq_true rfl⟩ (Nat.le_of_ble_eq_true rfl) ⟨Nat.le_of_ble_eq_true rfl, Nat.le_of_ble_eq_true rfl⟩ d_W_finish_82 ?_
        refine r_pop X d_W_finish_85 rfl ?_
        refine r_iconst (v := 1) X d_W_finish_86 (by decide) ?_
        cases hf
      · have hf := (if_pos hc23).symm.trans hf
        refine r_iconst (v := 0) X d_W_finish_75 (by decide) ?_
        cases hf
    · have hf := (if_pos hc9).symm.trans hf
      cases hf
      refine r_widen (kc2 := 0) (ks2 := 5) (Nat.le_of_ble_eq_true rfl) (Nat.le_of_ble_eq_true rfl) ?_
      exact r_throw (k := 0) X hfl hlk hex (by decide) (Nat.le_of_ble_eq_true rfl) (Nat.le_of_ble_eq_true rfl) (Nat.le_of_ble_eq_true rfl) (Nat.le_of_ble_eq_true rfl) q523 q524 q15 d_W_finish_40 d_W_finish_43 d_W_finish_44 d_W_finish_47
  · have hf := (if_pos hc5).symm.trans hf
    cases hf
    refine r_widen (kc2 := 0) (ks2 := 5) (Nat.le_of_ble_eq_true rfl) (Nat.le_of_ble_eq_true rfl) ?_
    exact r_throw (k := 1) X hfl hlk hex (by decide) (Nat.le_of_ble_eq_true rfl) (Nat.le_of_ble_eq_true rfl) (Nat.le_of_ble_eq_true rfl) (Nat.le_of_ble_eq_true rfl) q656 q657 q18 d_W_finish_24 d_W_finish_27 d_W_finish_28 d_W_finish_31

set_option maxRecDepth 100000 in
theorem t_W_finish {l : Launch} (hfl : l.flags = flags0) {DD : DT} (n : Nat) (v0 : Option Nat) (v1 : Int32) (v2 : Int32) (v3 : Int32) {σ0 σz : Hp} {kz : Nat} (hf : f_W_finish n v0 v1 v2 v3 σ0 = some (Sum.inr kz, σz)) : TH l DD y_W_finish prog_1_method_8_code 5 (some .boolean) rm_W_finish [tR v0, tI v1, tI v2, tI v3] σ0 kz σz := by
  refine r_metT (by decide) (Nat.le_of_ble_eq_true rfl) ?_
  intro p e s m args below meth c X hret hlk hex
  unfold f_W_finish at hf
  refine r_iload_n X d_W_finish_0 rfl 1 rfl ?_
  obtain ⟨x3, σ2, h1, hf⟩ := pbind hf
  refine r_callS (st := []) X [tI v1] q271 q272 (c_W_isKey v1 h1) q273 q1 y_W_isKey_ok rfl ⟨Nat.le_of_ble_eq_true rfl, Nat.le_of_ble_eq_true rfl⟩ (Nat.le_of_ble_eq_true rfl) ⟨Nat.le_of_ble_eq_true rfl, Nat.le_of_ble_eq_true rfl⟩ d_W_finish_1 ?_
  refine r_if_eq (tgt := 16) X d_W_finish_4 (by decide) (fun hc4 => ?_) (fun hc4 => ?_)
  · have hf := (if_pos hc4).symm.trans hf
    refine r_null X d_W_finish_16 ?_
    refine r_widen (kc2 := 0) (ks2 := 0) (Nat.le_of_ble_eq_true rfl) (Nat.le_of_ble_eq_true rfl) ?_
    refine r_sub [0, 1, 2, 3] (lv' := [(0, tR v0), (1, tI v1), (2, tI v2), (3, tI v3)]) rfl ?_
    exact u_W_finish_17 X hret hlk hfl hex n   v0 v1 v2 v3 none σ2 hf
  · have hf := (if_neg hc4).symm.trans hf
    refine r_aload_n X d_W_finish_7 rfl 0 rfl ?_
    obtain ⟨x29, h30, hf⟩ := obind hf
    refine r_ld_R (ci := 0) (k := 1) X h30 (Nat.le_of_ble_eq_true rfl) (Nat.le_of_ble_eq_true rfl) rfl rfl q222 d_W_finish_8 ?_
    refine r_iload_n X d_W_finish_11 rfl 1 rfl ?_
    obtain ⟨x31, h32, hf⟩ := obind hf
    refine r_al_W X h32 d_W_finish_12 ?_
    refine r_goto (tgt := 17) X d_W_finish_13 (by decide) ?_
    refine r_widen (kc2 := 0) (ks2 := 0) (Nat.le_of_ble_eq_true rfl) (Nat.le_of_ble_eq_true rfl) ?_
    refine r_sub [0, 1, 2, 3] (lv' := [(0, tR v0), (1, tI v1), (2, tI v2), (3, tI v3)]) rfl ?_
    exact u_W_finish_17 X hret hlk hfl hex n   v0 v1 v2 v3 x31 σ2 hf

def f_W_fail_16   (σ : Hp) : Option ((Int32 ⊕ Nat) × Hp) :=
  some (Sum.inr 1, nw_X σ)
set_option maxRecDepth 100000 in
theorem b_W_fail_16 {p : Program} {l : Launch} {e : Env} {s : State} {m : MethodId} {args : Array Value} {below : List Frame} {meth : Method} {c : Code} {DD : DT} {σ0 σz : Hp} {rz : Int32} (X : CX p s m args c prog_1_method_9_code 2 (dm σ0) DD y_W_fail.cls) (hret : meth.sig.returnType = none) (hlk : meth.locks = false) (hnm : meth.name = y_W_fail.name)    (σ : Hp) (hf : f_W_fail_16   σ = some (Sum.inl rz, σz)) : GG p l e rm_W_fail s m args below meth c 2 (dm σ0) DD (MQ below (Post DD σ0 none σz) args s rm_W_fail.cells rm_W_fail.slots (dm σ0)) 0 0 σ 16 [] [] := by
  unfold f_W_fail_16 at hf
  cases hf

def f_W_fail (v0 : Option Nat) (v1 : Int32) (σ : Hp) : Option ((Int32 ⊕ Nat) × Hp) :=
  pb (f_W_isKey v1 σ) fun x3 σ2 =>
  if x3 = 0 then
  (
    f_W_fail_16   σ2)
  else
  (
    Option.bind (ld_R σ2 v0 0 1) fun x5 =>
    Option.bind (al_R σ2 4 x5 v1) fun x7 =>
    if x7 = none then
    (
      f_W_fail_16   σ2)
    else
    (
      Option.bind (ld_R σ2 v0 0 1) fun x10 =>
      Option.bind (as_R σ2 4 10 x10 v1 none) fun σ12 =>
      Option.bind (ld_I σ12 v0 0 12) fun x14 =>
      Option.bind (st_I σ12 v0 0 12 (x14 + 1)) fun σ16 =>
      some (Sum.inl 0, σ16)))
set_option maxRecDepth 100000 in
theorem c_W_fail {l : Launch} {DD : DT} (v0 : Option Nat) (v1 : Int32) {σ0 σz : Hp} {rz : Int32} (hf : f_W_fail v0 v1 σ0 = some (Sum.inl rz, σz)) : CT l DD y_W_fail prog_1_method_9_code 2 none rm_W_fail [tR v0, tI v1] σ0 none σz := by
  refine r_met (by decide) (Nat.le_of_ble_eq_true rfl) ?_
  intro p e s m args below meth c X hret hlk hnm
  unfold f_W_fail at hf
  refine r_iload_n X d_W_fail_0 rfl 1 rfl ?_
  obtain ⟨x3, σ2, h1, hf⟩ := pbind hf
  refine r_callS (st := []) X [tI v1] q271 q272 (c_W_isKey v1 h1) q273 q1 y_W_isKey_ok rfl ⟨Nat.le_of_ble_eq_true rfl, Nat.le_of_ble_eq_true rfl⟩ (Nat.le_of_ble_eq_true rfl) ⟨Nat.le_of_ble_eq_true rfl, Nat.le_of_ble_eq_true rfl⟩ d_W_fail_1 ?_
  refine r_if_eq (tgt := 16) X d_W_fail_4 (by decide) (fun hc4 => ?_) (fun hc4 => ?_)
  · have hf := (if_pos hc4).symm.trans hf
    refine r_widen (kc2 := 0) (ks2 := 0) (Nat.le_of_ble_eq_true rfl) (Nat.le_of_ble_eq_true rfl) ?_
    refine r_sub [] (lv' := []) rfl ?_
    exact b_W_fail_16 X hret hlk hnm    σ2 hf
  · have hf := (if_neg hc4).symm.trans hf
    refine r_aload_n X d_W_fail_7 rfl 0 rfl ?_
    obtain ⟨x5, h6, hf⟩ := obind hf
    refine r_ld_R (ci := 0) (k := 1) X h6 (Nat.le_of_ble_eq_true rfl) (Nat.le_of_ble_eq_true rfl) rfl rfl q222 d_W_fail_8 ?_
    refine r_iload_n X d_W_fail_11 rfl 1 rfl ?_
    obtain ⟨x7, h8, hf⟩ := obind hf
    refine r_al_W X h8 d_W_fail_12 ?_
    refine r_ifnonnull (tgt := 24) X d_W_fail_13 (by decide) (fun hc9 => ?_) (fun hc9 => ?_)
    · have hf := (if_neg hc9).symm.trans hf
      refine r_aload_n X d_W_fail_24 rfl 0 rfl ?_
      obtain ⟨x10, h11, hf⟩ := obind hf
      refine r_ld_R (ci := 0) (k := 1) X h11 (Nat.le_of_ble_eq_true rfl) (Nat.le_of_ble_eq_true rfl) rfl rfl q222 d_W_fail_25 ?_
      refine r_iload_n X d_W_fail_28 rfl 1 rfl ?_
      refine r_null X d_W_fail_29 ?_
      obtain ⟨σ12, h13, hf⟩ := obind hf
      refine r_as_W X h13 d_W_fail_30 ?_
      refine r_aload_n X d_W_fail_31 rfl 0 rfl ?_
      refine r_dup X d_W_fail_32 rfl ?_
      obtain ⟨x14, h15, hf⟩ := obind hf
      refine r_ld_I (ci := 0) (k := 12) X h15 (Nat.le_of_ble_eq_true rfl) (Nat.le_of_ble_eq_true rfl) (Or.inl rfl) rfl q233 d_W_fail_33 ?_
      refine r_iconst (v := 1) X d_W_fail_36 (by decide) ?_
      refine r_iadd X d_W_fail_37 ?_
      obtain ⟨σ16, h17, hf⟩ := obind hf
      refine r_st_I (ci := 0) (k := 12) X h17 (Nat.le_of_ble_eq_true rfl) (Nat.le_of_ble_eq_true rfl) rfl rfl rfl q233 d_W_fail_38 ?_
      cases hf
      refine r_widen (kc2 := rm_W_fail.cells) (ks2 := rm_W_fail.slots) (Nat.le_of_ble_eq_true rfl) (Nat.le_of_ble_eq_true rfl) ?_
      exact r_vret X hret hlk d_W_fail_41
    · have hf := (if_pos hc9).symm.trans hf
      refine r_widen (kc2 := 0) (ks2 := 0) (Nat.le_of_ble_eq_true rfl) (Nat.le_of_ble_eq_true rfl) ?_
      refine r_sub [] (lv' := []) rfl ?_
      exact b_W_fail_16 X hret hlk hnm    σ2 hf

set_option maxRecDepth 100000 in
theorem u_W_fail_16 {p : Program} {l : Launch} {e : Env} {s : State} {m : MethodId} {args : Array Value} {below : List Frame} {meth : Method} {c : Code} {DD : DT} {σ0 σz : Hp} {kz : Nat} (X : CX p s m args c prog_1_method_9_code 2 (dm σ0) DD y_W_fail.cls) (hret : meth.sig.returnType = none) (hlk : meth.locks = false) (hfl : l.flags = flags0) (hex : c.exceptionTable.toList = [])    (σ : Hp) (hf : f_W_fail_16   σ = some (Sum.inr kz, σz)) : GG p l e rm_W_fail s m args below meth c 2 (dm σ0) DD (QT below (PostT DD σ0 kz σz rm_W_fail.cells rm_W_fail.slots) args s) 0 0 σ 16 [] [] := by
  unfold f_W_fail_16 at hf
  cases hf
  refine r_widen (kc2 := 0) (ks2 := 0) (Nat.le_of_ble_eq_true rfl) (Nat.le_of_ble_eq_true rfl) ?_
  exact r_throw (k := 1) X hfl hlk hex (by decide) (Nat.le_of_ble_eq_true rfl) (Nat.le_of_ble_eq_true rfl) (Nat.le_of_ble_eq_true rfl) (Nat.le_of_ble_eq_true rfl) q656 q657 q18 d_W_fail_16 d_W_fail_19 d_W_fail_20 d_W_fail_23

set_option maxRecDepth 100000 in
theorem t_W_fail {l : Launch} (hfl : l.flags = flags0) {DD : DT} (v0 : Option Nat) (v1 : Int32) {σ0 σz : Hp} {kz : Nat} (hf : f_W_fail v0 v1 σ0 = some (Sum.inr kz, σz)) : TH l DD y_W_fail prog_1_method_9_code 2 none rm_W_fail [tR v0, tI v1] σ0 kz σz := by
  refine r_metT (by decide) (Nat.le_of_ble_eq_true rfl) ?_
  intro p e s m args below meth c X hret hlk hex
  unfold f_W_fail at hf
  refine r_iload_n X d_W_fail_0 rfl 1 rfl ?_
  obtain ⟨x3, σ2, h1, hf⟩ := pbind hf
  refine r_callS (st := []) X [tI v1] q271 q272 (c_W_isKey v1 h1) q273 q1 y_W_isKey_ok rfl ⟨Nat.le_of_ble_eq_true rfl, Nat.le_of_ble_eq_true rfl⟩ (Nat.le_of_ble_eq_true rfl) ⟨Nat.le_of_ble_eq_true rfl, Nat.le_of_ble_eq_true rfl⟩ d_W_fail_1 ?_
  refine r_if_eq (tgt := 16) X d_W_fail_4 (by decide) (fun hc4 => ?_) (fun hc4 => ?_)
  · have hf := (if_pos hc4).symm.trans hf
    refine r_widen (kc2 := 0) (ks2 := 0) (Nat.le_of_ble_eq_true rfl) (Nat.le_of_ble_eq_true rfl) ?_
    refine r_sub [] (lv' := []) rfl ?_
    exact u_W_fail_16 X hret hlk hfl hex    σ2 hf
  · have hf := (if_neg hc4).symm.trans hf
    refine r_aload_n X d_W_fail_7 rfl 0 rfl ?_
    obtain ⟨x5, h6, hf⟩ := obind hf
    refine r_ld_R (ci := 0) (k := 1) X h6 (Nat.le_of_ble_eq_true rfl) (Nat.le_of_ble_eq_true rfl) rfl rfl q222 d_W_fail_8 ?_
    refine r_iload_n X d_W_fail_11 rfl 1 rfl ?_
    obtain ⟨x7, h8, hf⟩ := obind hf
    refine r_al_W X h8 d_W_fail_12 ?_
    refine r_ifnonnull (tgt := 24) X d_W_fail_13 (by decide) (fun hc9 => ?_) (fun hc9 => ?_)
    · have hf := (if_neg hc9).symm.trans hf
      refine r_aload_n X d_W_fail_24 rfl 0 rfl ?_
      obtain ⟨x10, h11, hf⟩ := obind hf
      refine r_ld_R (ci := 0) (k := 1) X h11 (Nat.le_of_ble_eq_true rfl) (Nat.le_of_ble_eq_true rfl) rfl rfl q222 d_W_fail_25 ?_
      refine r_iload_n X d_W_fail_28 rfl 1 rfl ?_
      refine r_null X d_W_fail_29 ?_
      obtain ⟨σ12, h13, hf⟩ := obind hf
      refine r_as_W X h13 d_W_fail_30 ?_
      refine r_aload_n X d_W_fail_31 rfl 0 rfl ?_
      refine r_dup X d_W_fail_32 rfl ?_
      obtain ⟨x14, h15, hf⟩ := obind hf
      refine r_ld_I (ci := 0) (k := 12) X h15 (Nat.le_of_ble_eq_true rfl) (Nat.le_of_ble_eq_true rfl) (Or.inl rfl) rfl q233 d_W_fail_33 ?_
      refine r_iconst (v := 1) X d_W_fail_36 (by decide) ?_
      refine r_iadd X d_W_fail_37 ?_
      obtain ⟨σ16, h17, hf⟩ := obind hf
      refine r_st_I (ci := 0) (k := 12) X h17 (Nat.le_of_ble_eq_true rfl) (Nat.le_of_ble_eq_true rfl) rfl rfl rfl q233 d_W_fail_38 ?_
      cases hf
    · have hf := (if_pos hc9).symm.trans hf
      refine r_widen (kc2 := 0) (ks2 := 0) (Nat.le_of_ble_eq_true rfl) (Nat.le_of_ble_eq_true rfl) ?_
      refine r_sub [] (lv' := []) rfl ?_
      exact u_W_fail_16 X hret hlk hfl hex    σ2 hf

