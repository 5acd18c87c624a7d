def f_M_firstStep (v0 : Option Nat) (σ : Hp) : Option (Int32 × Hp) :=
  Option.bind (ld_I σ v0 11 1) fun x1 =>
  if 1 ≤ (x1 / 16) then
  (
    Option.bind (ld_I σ v0 11 1) fun x4 =>
    some (x4 / 16, σ))
  else
  (
    some (1, σ))
set_option maxRecDepth 100000 in
theorem c_M_firstStep {l : Launch} {DD : DT} (v0 : Option Nat) {σ0 σz : Hp} {rz : Int32} (hf : f_M_firstStep v0 σ0 = some (rz, σz)) : CT l DD y_M_firstStep prog_13_method_3_code 1 (some .int) rm_M_firstStep [tR v0] σ0 (some (tI rz)) σz := by
  refine r_met (by decide) (Nat.le_of_ble_eq_true rfl) ?_
  intro p e s m args below meth c X hret hlk hnm
  unfold f_M_firstStep at hf
  refine r_aload_n X d_M_firstStep_0 rfl 0 rfl ?_
  obtain ⟨x1, h2, hf⟩ := obind hf
  refine r_ld_I (ci := 11) (k := 1) X h2 (Nat.le_of_ble_eq_true rfl) (Nat.le_of_ble_eq_true rfl) (Or.inl rfl) rfl q705 d_M_firstStep_1 ?_
  refine r_bipush (v := 16) X d_M_firstStep_4 (by decide) ?_
  refine r_idiv X d_M_firstStep_6 (by decide) ?_
  refine r_iconst (v := 1) X d_M_firstStep_7 (by decide) ?_
  refine r_icmp_ge (tgt := 15) X d_M_firstStep_8 (by decide) (fun hc3 => ?_) (fun hc3 => ?_)
  · have hf := (if_pos hc3).symm.trans hf
    refine r_aload_n X d_M_firstStep_15 rfl 0 rfl ?_
    obtain ⟨x4, h5, hf⟩ := obind hf
    refine r_ld_I (ci := 11) (k := 1) X h5 (Nat.le_of_ble_eq_true rfl) (Nat.le_of_ble_eq_true rfl) (Or.inl rfl) rfl q705 d_M_firstStep_16 ?_
    refine r_bipush (v := 16) X d_M_firstStep_19 (by decide) ?_
    refine r_idiv X d_M_firstStep_21 (by decide) ?_
    cases hf
    refine r_widen (kc2 := rm_M_firstStep.cells) (ks2 := rm_M_firstStep.slots) (Nat.le_of_ble_eq_true rfl) (Nat.le_of_ble_eq_true rfl) ?_
    exact r_iret X hret hlk d_M_firstStep_22
  · have hf := (if_neg hc3).symm.trans hf
    refine r_iconst (v := 1) X d_M_firstStep_11 (by decide) ?_
    refine r_goto (tgt := 22) X d_M_firstStep_12 (by decide) ?_
    cases hf
    refine r_widen (kc2 := rm_M_firstStep.cells) (ks2 := rm_M_firstStep.slots) (Nat.le_of_ble_eq_true rfl) (Nat.le_of_ble_eq_true rfl) ?_
    exact r_iret X hret hlk d_M_firstStep_22

def f_M_init_340 (n : Nat)  : Nat → Option Nat → Int32 → Hp → Option Hp
  | 0, _, _, _ => none
  | i + 1, v0, v5, σ =>
    if 1000 ≤ v5 then
    (
      Option.bind (ld_R σ v0 11 31) fun x85 =>
      Option.bind (as_I σ 0 x85 0 ((-1640531527))) fun σ87 =>
      Option.bind (ld_R σ87 v0 11 31) fun x89 =>
      Option.bind (as_I σ87 0 x89 1 ((-2048144777))) fun σ91 =>
      Option.bind (ld_R σ91 v0 11 31) fun x93 =>
      Option.bind (as_I σ91 0 x93 2 ((-1028477379))) fun σ95 =>
      Option.bind (ld_R σ95 v0 11 31) fun x97 =>
      Option.bind (as_I σ95 0 x97 3 668265263) fun σ99 =>
      some σ99)
    else
    (
      Option.bind (ld_R σ v0 11 6) fun x101 =>
      Option.bind (as_I σ 0 x101 v5 ((-1))) fun σ103 =>
      f_M_init_340 n i v0 (v5 + 1) σ103)
set_option maxRecDepth 100000 in
theorem b_M_init_340 {p : Program} {l : Launch} {e : Env} {s : State} {m : MethodId} {args : Array Value} {below : List Frame} {meth : Method} {c : Code} {DD : DT} {σ0 σz : Hp} (X : CX p s m args c prog_13_method_1_code 6 (dm σ0) DD y_M_init.cls) (hret : meth.sig.returnType = none) (hlk : meth.locks = false) (hnm : meth.name = y_M_init.name) (n : Nat)   : ∀ (i : Nat) (v0 : Option Nat) (v5 : Int32) (σ : Hp) (hf : f_M_init_340 n  i v0 v5 σ = some σz), GG p l e rm_M_init s m args below meth c 6 (dm σ0) DD (MQ below (Post DD σ0 none σz) args s rm_M_init.cells rm_M_init.slots (dm σ0)) 24 50422 σ 340 [(0, tR v0), (5, tI v5)] [] := by
  intro i
  induction i with
  | zero => intro v0 v5 σ hf; cases hf
  | succ i ih =>
    intro v0 v5 σ hf
    simp only [f_M_init_340] at hf
    refine r_iload X d_M_init_340 1 rfl ?_
    refine r_sipush (v := 1000) X d_M_init_342 (by decide) ?_
    refine r_icmp_ge (tgt := 362) X d_M_init_345 (by decide) (fun hc84 => ?_) (fun hc84 => ?_)
    · have hf := (if_pos hc84).symm.trans hf
      refine r_aload_n X d_M_init_362 rfl 0 rfl ?_
      obtain ⟨x85, h86, hf⟩ := obind hf
      refine r_ld_R (ci := 11) (k := 31) X h86 (Nat.le_of_ble_eq_true rfl) (Nat.le_of_ble_eq_true rfl) rfl rfl q735 d_M_init_363 ?_
      refine r_iconst (v := 0) X d_M_init_366 (by decide) ?_
      refine r_ldc X d_M_init_367 q700 ?_
      obtain ⟨σ87, h88, hf⟩ := obind hf
      refine r_as_I X h88 d_M_init_369 ?_
      refine r_aload_n X d_M_init_370 rfl 0 rfl ?_
      obtain ⟨x89, h90, hf⟩ := obind hf
      refine r_ld_R (ci := 11) (k := 31) X h90 (Nat.le_of_ble_eq_true rfl) (Nat.le_of_ble_eq_true rfl) rfl rfl q735 d_M_init_371 ?_
      refine r_iconst (v := 1) X d_M_init_374 (by decide) ?_
      refine r_ldc X d_M_init_375 q701 ?_
      obtain ⟨σ91, h92, hf⟩ := obind hf
      refine r_as_I X h92 d_M_init_377 ?_
      refine r_aload_n X d_M_init_378 rfl 0 rfl ?_
      obtain ⟨x93, h94, hf⟩ := obind hf
      refine r_ld_R (ci := 11) (k := 31) X h94 (Nat.le_of_ble_eq_true rfl) (Nat.le_of_ble_eq_true rfl) rfl rfl q735 d_M_init_379 ?_
      refine r_iconst (v := 2) X d_M_init_382 (by decide) ?_
      refine r_ldc X d_M_init_383 q702 ?_
      obtain ⟨σ95, h96, hf⟩ := obind hf
      refine r_as_I X h96 d_M_init_385 ?_
      refine r_aload_n X d_M_init_386 rfl 0 rfl ?_
      obtain ⟨x97, h98, hf⟩ := obind hf
      refine r_ld_R (ci := 11) (k := 31) X h98 (Nat.le_of_ble_eq_true rfl) (Nat.le_of_ble_eq_true rfl) rfl rfl q735 d_M_init_387 ?_
      refine r_iconst (v := 3) X d_M_init_390 (by decide) ?_
      refine r_ldc X d_M_init_391 q703 ?_
      obtain ⟨σ99, h100, hf⟩ := obind hf
      refine r_as_I X h100 d_M_init_393 ?_
      cases hf
      refine r_widen (kc2 := rm_M_init.cells) (ks2 := rm_M_init.slots) (Nat.le_of_ble_eq_true rfl) (Nat.le_of_ble_eq_true rfl) ?_
      exact r_vret X hret hlk d_M_init_394
    · have hf := (if_neg hc84).symm.trans hf
      refine r_aload_n X d_M_init_348 rfl 0 rfl ?_
      obtain ⟨x101, h102, hf⟩ := obind hf
      refine r_ld_R (ci := 11) (k := 6) X h102 (Nat.le_of_ble_eq_true rfl) (Nat.le_of_ble_eq_true rfl) rfl rfl q710 d_M_init_349 ?_
      refine r_iload X d_M_init_352 1 rfl ?_
      refine r_iconst (v := -1) X d_M_init_354 (by decide) ?_
      obtain ⟨σ103, h104, hf⟩ := obind hf
      refine r_as_I X h104 d_M_init_355 ?_
      refine r_iinc (lv' := [(0, tR v0), (5, tI (v5 + 1))]) (j := 1) X [1, 0] d_M_init_356 rfl rfl (Nat.le_of_ble_eq_true rfl) rfl ?_
      refine r_goto (tgt := 340) X d_M_init_359 (by decide) ?_
      refine r_widen (kc2 := 24) (ks2 := 50422) (Nat.le_of_ble_eq_true rfl) (Nat.le_of_ble_eq_true rfl) ?_
      refine r_sub [0, 1] (lv' := [(0, tR v0), (5, tI (v5 + 1))]) rfl ?_
      exact ih v0 (v5 + 1) σ103 hf

def f_M_init_326 (n : Nat)  (v0 : Option Nat) (w0 : Int32) (w1 : Option Nat) (σ : Hp) : Option Hp :=
  Option.bind (st_I σ w1 11 32 w0) fun σ75 =>
  Option.bind (is_O σ75 v0 11) fun x78 =>
  pb (f_M_firstStep v0 σ75) fun x81 σ80 =>
  Option.bind (st_I σ80 v0 11 33 x81) fun σ82 =>
  f_M_init_340 n  n v0 0 σ82
set_option maxRecDepth 100000 in
theorem b_M_init_326 {p : Program} {l : Launch} {e : Env} {s : State} {m : MethodId} {args : Array Value} {below : List Frame} {meth : Method} {c : Code} {DD : DT} {σ0 σz : Hp} (X : CX p s m args c prog_13_method_1_code 6 (dm σ0) DD y_M_init.cls) (hret : meth.sig.returnType = none) (hlk : meth.locks = false) (hnm : meth.name = y_M_init.name) (n : Nat)   (v0 : Option Nat) (w0 : Int32) (w1 : Option Nat) (σ : Hp) (hf : f_M_init_326 n  v0 w0 w1 σ = some σz) : GG p l e rm_M_init s m args below meth c 6 (dm σ0) DD (MQ below (Post DD σ0 none σz) args s rm_M_init.cells rm_M_init.slots (dm σ0)) 24 50422 σ 326 [(0, tR v0)] [tI w0, tR w1] := by
  unfold f_M_init_326 at hf
  obtain ⟨σ75, h76, hf⟩ := obind hf
  refine r_st_I (ci := 11) (k := 32) X h76 (Nat.le_of_ble_eq_true rfl) (Nat.le_of_ble_eq_true rfl) rfl rfl rfl q736 d_M_init_326 ?_
  refine r_aload_n X d_M_init_329 rfl 0 rfl ?_
  refine r_aload_n X d_M_init_330 rfl 0 rfl ?_
  obtain ⟨x78, h77, hf⟩ := obind hf
  obtain ⟨x81, σ80, h79, hf⟩ := pbind hf
  refine r_callV (st := [tR v0]) X [] (ci := 11) h77 (Nat.le_of_ble_eq_true rfl) q696 q698 sl17 (c_M_firstStep v0 h79) q699 q11 y_M_firstStep_ok rfl ⟨Nat.le_of_ble_eq_true rfl, Nat.le_of_ble_eq_true rfl⟩ (Nat.le_of_ble_eq_true rfl) ⟨Nat.le_of_ble_eq_true rfl, Nat.le_of_ble_eq_true rfl⟩ d_M_init_331 ?_
  obtain ⟨σ82, h83, hf⟩ := obind hf
  refine r_st_I (ci := 11) (k := 33) X h83 (Nat.le_of_ble_eq_true rfl) (Nat.le_of_ble_eq_true rfl) rfl rfl rfl q737 d_M_init_334 ?_
  refine r_iconst (v := 0) X d_M_init_337 (by decide) ?_
  refine r_istore (lv' := [(0, tR v0), (5, tI 0)]) X [1, 0] d_M_init_338 (Nat.le_of_ble_eq_true rfl) rfl ?_
  refine r_widen (kc2 := 24) (ks2 := 50422) (Nat.le_of_ble_eq_true rfl) (Nat.le_of_ble_eq_true rfl) ?_
  refine r_sub [0, 1] (lv' := [(0, tR v0), (5, tI 0)]) rfl ?_
  exact b_M_init_340 X hret hlk hnm n   n v0 0 σ82 hf

def f_M_init_279 (n : Nat)  : Nat → Option Nat → Int32 → Hp → Option Hp
  | 0, _, _, _ => none
  | i + 1, v0, v4, σ =>
    Option.bind (ld_I σ v0 11 1) fun x65 =>
    if x65 ≤ v4 then
    (
      Option.bind (st_I σ v0 11 4 v4) fun σ68 =>
      Option.bind (ld_I σ68 v0 11 1) fun x70 =>
      if 1 ≤ (x70 / 100) then
      (
        Option.bind (ld_I σ68 v0 11 1) fun x73 =>
        f_M_init_326 n  v0 (x73 / 100) v0 σ68)
      else
      (
        f_M_init_326 n  v0 1 v0 σ68))
    else
    (
      f_M_init_279 n i v0 (v4 * 2) σ)
set_option maxRecDepth 100000 in
theorem b_M_init_279 {p : Program} {l : Launch} {e : Env} {s : State} {m : MethodId} {args : Array Value} {below : List Frame} {meth : Method} {c : Code} {DD : DT} {σ0 σz : Hp} (X : CX p s m args c prog_13_method_1_code 6 (dm σ0) DD y_M_init.cls) (hret : meth.sig.returnType = none) (hlk : meth.locks = false) (hnm : meth.name = y_M_init.name) (n : Nat)   : ∀ (i : Nat) (v0 : Option Nat) (v4 : Int32) (σ : Hp) (hf : f_M_init_279 n  i v0 v4 σ = some σz), GG p l e rm_M_init s m args below meth c 6 (dm σ0) DD (MQ below (Post DD σ0 none σz) args s rm_M_init.cells rm_M_init.slots (dm σ0)) 24 50422 σ 279 [(0, tR v0), (4, tI v4)] [] := by
  intro i
  induction i with
  | zero => intro v0 v4 σ hf; cases hf
  | succ i ih =>
    intro v0 v4 σ hf
    simp only [f_M_init_279] at hf
    refine r_iload X d_M_init_279 1 rfl ?_
    refine r_aload_n X d_M_init_281 rfl 0 rfl ?_
    obtain ⟨x65, h66, hf⟩ := obind hf
    refine r_ld_I (ci := 11) (k := 1) X h66 (Nat.le_of_ble_eq_true rfl) (Nat.le_of_ble_eq_true rfl) (Or.inl rfl) rfl q705 d_M_init_282 ?_
    refine r_icmp_ge (tgt := 297) X d_M_init_285 (by decide) (fun hc67 => ?_) (fun hc67 => ?_)
    · have hf := (if_pos hc67).symm.trans hf
      refine r_aload_n X d_M_init_297 rfl 0 rfl ?_
      refine r_iload X d_M_init_298 1 rfl ?_
      obtain ⟨σ68, h69, hf⟩ := obind hf
      refine r_stF_I (ci := 11) (k := 4) X h69 (Nat.le_of_ble_eq_true rfl) (Nat.le_of_ble_eq_true rfl) rfl rfl rfl hnm rfl q708 d_M_init_300 ?_
      refine r_aload_n X d_M_init_303 rfl 0 rfl ?_
      refine r_aload_n X d_M_init_304 rfl 0 rfl ?_
      obtain ⟨x70, h71, hf⟩ := obind hf
      refine r_ld_I (ci := 11) (k := 1) X h71 (Nat.le_of_ble_eq_true rfl) (Nat.le_of_ble_eq_true rfl) (Or.inl rfl) rfl q705 d_M_init_305 ?_
      refine r_bipush (v := 100) X d_M_init_308 (by decide) ?_
      refine r_idiv X d_M_init_310 (by decide) ?_
      refine r_iconst (v := 1) X d_M_init_311 (by decide) ?_
      refine r_icmp_ge (tgt := 319) X d_M_init_312 (by decide) (fun hc72 => ?_) (fun hc72 => ?_)
      · have hf := (if_pos hc72).symm.trans hf
        refine r_aload_n X d_M_init_319 rfl 0 rfl ?_
        obtain ⟨x73, h74, hf⟩ := obind hf
        refine r_ld_I (ci := 11) (k := 1) X h74 (Nat.le_of_ble_eq_true rfl) (Nat.le_of_ble_eq_true rfl) (Or.inl rfl) rfl q705 d_M_init_320 ?_
        refine r_bipush (v := 100) X d_M_init_323 (by decide) ?_
        refine r_idiv X d_M_init_325 (by decide) ?_
        refine r_widen (kc2 := 24) (ks2 := 50422) (Nat.le_of_ble_eq_true rfl) (Nat.le_of_ble_eq_true rfl) ?_
        refine r_sub [0] (lv' := [(0, tR v0)]) rfl ?_
        exact b_M_init_326 X hret hlk hnm n   v0 (x73 / 100) v0 σ68 hf
      · have hf := (if_neg hc72).symm.trans hf
        refine r_iconst (v := 1) X d_M_init_315 (by decide) ?_
        refine r_goto (tgt := 326) X d_M_init_316 (by decide) ?_
        refine r_widen (kc2 := 24) (ks2 := 50422) (Nat.le_of_ble_eq_true rfl) (Nat.le_of_ble_eq_true rfl) ?_
        refine r_sub [0] (lv' := [(0, tR v0)]) rfl ?_
        exact b_M_init_326 X hret hlk hnm n   v0 1 v0 σ68 hf
    · have hf := (if_neg hc67).symm.trans hf
      refine r_iload X d_M_init_288 1 rfl ?_
      refine r_iconst (v := 2) X d_M_init_290 (by decide) ?_
      refine r_imul X d_M_init_291 ?_
      refine r_istore (lv' := [(0, tR v0), (4, tI (v4 * 2))]) X [1, 0] d_M_init_292 (Nat.le_of_ble_eq_true rfl) rfl ?_
      refine r_goto (tgt := 279) X d_M_init_294 (by decide) ?_
      refine r_widen (kc2 := 24) (ks2 := 50422) (Nat.le_of_ble_eq_true rfl) (Nat.le_of_ble_eq_true rfl) ?_
      refine r_sub [0, 1] (lv' := [(0, tR v0), (4, tI (v4 * 2))]) rfl ?_
      exact ih v0 (v4 * 2) σ hf

def f_M_init_272 (n : Nat)  (v0 : Option Nat) (w0 : Int32) (w1 : Option Nat) (σ : Hp) : Option Hp :=
  Option.bind (st_I σ w1 11 3 w0) fun σ63 =>
  f_M_init_279 n  n v0 8 σ63
set_option maxRecDepth 100000 in
theorem b_M_init_272 {p : Program} {l : Launch} {e : Env} {s : State} {m : MethodId} {args : Array Value} {below : List Frame} {meth : Method} {c : Code} {DD : DT} {σ0 σz : Hp} (X : CX p s m args c prog_13_method_1_code 6 (dm σ0) DD y_M_init.cls) (hret : meth.sig.returnType = none) (hlk : meth.locks = false) (hnm : meth.name = y_M_init.name) (n : Nat)   (v0 : Option Nat) (w0 : Int32) (w1 : Option Nat) (σ : Hp) (hf : f_M_init_272 n  v0 w0 w1 σ = some σz) : GG p l e rm_M_init s m args below meth c 6 (dm σ0) DD (MQ below (Post DD σ0 none σz) args s rm_M_init.cells rm_M_init.slots (dm σ0)) 24 50422 σ 272 [(0, tR v0)] [tI w0, tR w1] := by
  unfold f_M_init_272 at hf
  obtain ⟨σ63, h64, hf⟩ := obind hf
  refine r_stF_I (ci := 11) (k := 3) X h64 (Nat.le_of_ble_eq_true rfl) (Nat.le_of_ble_eq_true rfl) rfl rfl rfl hnm rfl q707 d_M_init_272 ?_
  refine r_bipush (v := 8) X d_M_init_275 (by decide) ?_
  refine r_istore (lv' := [(0, tR v0), (4, tI 8)]) X [1, 0] d_M_init_277 (Nat.le_of_ble_eq_true rfl) rfl ?_
  refine r_widen (kc2 := 24) (ks2 := 50422) (Nat.le_of_ble_eq_true rfl) (Nat.le_of_ble_eq_true rfl) ?_
  refine r_sub [0, 1] (lv' := [(0, tR v0), (4, tI 8)]) rfl ?_
  exact b_M_init_279 X hret hlk hnm n   n v0 8 σ63 hf

def f_M_init_259 (n : Nat)  (v0 : Option Nat) (v3 : Int32) (w0 : Int32) (w1 : Option Nat) (σ : Hp) : Option Hp :=
  Option.bind (st_I σ w1 11 2 w0) fun σ60 =>
  if 0 ≤ v3 then
  (
    f_M_init_272 n  v0 v3 v0 σ60)
  else
  (
    f_M_init_272 n  v0 0 v0 σ60)
set_option maxRecDepth 100000 in
theorem b_M_init_259 {p : Program} {l : Launch} {e : Env} {s : State} {m : MethodId} {args : Array Value} {below : List Frame} {meth : Method} {c : Code} {DD : DT} {σ0 σz : Hp} (X : CX p s m args c prog_13_method_1_code 6 (dm σ0) DD y_M_init.cls) (hret : meth.sig.returnType = none) (hlk : meth.locks = false) (hnm : meth.name = y_M_init.name) (n : Nat)   (v0 : Option Nat) (v3 : Int32) (w0 : Int32) (w1 : Option Nat) (σ : Hp) (hf : f_M_init_259 n  v0 v3 w0 w1 σ = some σz) : GG p l e rm_M_init s m args below meth c 6 (dm σ0) DD (MQ below (Post DD σ0 none σz) args s rm_M_init.cells rm_M_init.slots (dm σ0)) 24 50422 σ 259 [(0, tR v0), (3, tI v3)] [tI w0, tR w1] := by
  unfold f_M_init_259 at hf
  obtain ⟨σ60, h61, hf⟩ := obind hf
  refine r_stF_I (ci := 11) (k := 2) X h61 (Nat.le_of_ble_eq_true rfl) (Nat.le_of_ble_eq_true rfl) rfl rfl rfl hnm rfl q706 d_M_init_259 ?_
  refine r_aload_n X d_M_init_262 rfl 0 rfl ?_
  refine r_iload_n X d_M_init_263 rfl 1 rfl ?_
  refine r_if_ge (tgt := 271) X d_M_init_264 (by decide) (fun hc62 => ?_) (fun hc62 => ?_)
  · have hf := (if_pos hc62).symm.trans hf
    refine r_iload_n X d_M_init_271 rfl 1 rfl ?_
    refine r_widen (kc2 := 24) (ks2 := 50422) (Nat.le_of_ble_eq_true rfl) (Nat.le_of_ble_eq_true rfl) ?_
    refine r_sub [0] (lv' := [(0, tR v0)]) rfl ?_
    exact b_M_init_272 X hret hlk hnm n   v0 v3 v0 σ60 hf
  · have hf := (if_neg hc62).symm.trans hf
    refine r_iconst (v := 0) X d_M_init_267 (by decide) ?_
    refine r_goto (tgt := 272) X d_M_init_268 (by decide) ?_
    refine r_widen (kc2 := 24) (ks2 := 50422) (Nat.le_of_ble_eq_true rfl) (Nat.le_of_ble_eq_true rfl) ?_
    refine r_sub [0] (lv' := [(0, tR v0)]) rfl ?_
    exact b_M_init_272 X hret hlk hnm n   v0 0 v0 σ60 hf

def f_M_init_246 (n : Nat)  (v0 : Option Nat) (v2 : Int32) (v3 : Int32) (w0 : Int32) (w1 : Option Nat) (σ : Hp) : Option Hp :=
  Option.bind (st_I σ w1 11 1 w0) fun σ57 =>
  if 0 ≤ v2 then
  (
    f_M_init_259 n  v0 v3 v2 v0 σ57)
  else
  (
    f_M_init_259 n  v0 v3 0 v0 σ57)
set_option maxRecDepth 100000 in
theorem b_M_init_246 {p : Program} {l : Launch} {e : Env} {s : State} {m : MethodId} {args : Array Value} {below : List Frame} {meth : Method} {c : Code} {DD : DT} {σ0 σz : Hp} (X : CX p s m args c prog_13_method_1_code 6 (dm σ0) DD y_M_init.cls) (hret : meth.sig.returnType = none) (hlk : meth.locks = false) (hnm : meth.name = y_M_init.name) (n : Nat)   (v0 : Option Nat) (v2 : Int32) (v3 : Int32) (w0 : Int32) (w1 : Option Nat) (σ : Hp) (hf : f_M_init_246 n  v0 v2 v3 w0 w1 σ = some σz) : GG p l e rm_M_init s m args below meth c 6 (dm σ0) DD (MQ below (Post DD σ0 none σz) args s rm_M_init.cells rm_M_init.slots (dm σ0)) 24 50422 σ 246 [(0, tR v0), (2, tI v2), (3, tI v3)] [tI w0, tR w1] := by
  unfold f_M_init_246 at hf
  obtain ⟨σ57, h58, hf⟩ := obind hf
  refine r_stF_I (ci := 11) (k := 1) X h58 (Nat.le_of_ble_eq_true rfl) (Nat.le_of_ble_eq_true rfl) rfl rfl rfl hnm rfl q705 d_M_init_246 ?_
  refine r_aload_n X d_M_init_249 rfl 0 rfl ?_
  refine r_iload_n X d_M_init_250 rfl 1 rfl ?_
  refine r_if_ge (tgt := 258) X d_M_init_251 (by decide) (fun hc59 => ?_) (fun hc59 => ?_)
  · have hf := (if_pos hc59).symm.trans hf
    refine r_iload_n X d_M_init_258 rfl 1 rfl ?_
    refine r_widen (kc2 := 24) (ks2 := 50422) (Nat.le_of_ble_eq_true rfl) (Nat.le_of_ble_eq_true rfl) ?_
    refine r_sub [0, 2] (lv' := [(0, tR v0), (3, tI v3)]) rfl ?_
    exact b_M_init_259 X hret hlk hnm n   v0 v3 v2 v0 σ57 hf
  · have hf := (if_neg hc59).symm.trans hf
    refine r_iconst (v := 0) X d_M_init_254 (by decide) ?_
    refine r_goto (tgt := 259) X d_M_init_255 (by decide) ?_
    refine r_widen (kc2 := 24) (ks2 := 50422) (Nat.le_of_ble_eq_true rfl) (Nat.le_of_ble_eq_true rfl) ?_
    refine r_sub [0, 2] (lv' := [(0, tR v0), (3, tI v3)]) rfl ?_
    exact b_M_init_259 X hret hlk hnm n   v0 v3 0 v0 σ57 hf

def f_M_init (n : Nat) (v0 : Option Nat) (v1 : Int32) (v2 : Int32) (v3 : Int32) (σ : Hp) : Option Hp :=
  Option.bind v0 fun x1 =>
  Option.bind (st_R (nw_A σ (0, (1000 : Int32).toNatClampNeg, .inl (fun _ => 0))) v0 11 6 (some (hp_N σ))) fun σ3 =>
  Option.bind (st_R (nw_A σ3 (0, (1000 : Int32).toNatClampNeg, .inl (fun _ => 0))) v0 11 7 (some (hp_N σ3))) fun σ5 =>
  Option.bind (st_R (nw_A σ5 (0, (1000 : Int32).toNatClampNeg, .inl (fun _ => 0))) v0 11 8 (some (hp_N σ5))) fun σ7 =>
  Option.bind (st_R (nw_A σ7 (0, (1000 : Int32).toNatClampNeg, .inl (fun _ => 0))) v0 11 9 (some (hp_N σ7))) fun σ9 =>
  Option.bind (st_R (nw_A σ9 (0, (1100 : Int32).toNatClampNeg, .inl (fun _ => 0))) v0 11 11 (some (hp_N σ9))) fun σ11 =>
  Option.bind (st_R (nw_A σ11 (0, (1100 : Int32).toNatClampNeg, .inl (fun _ => 0))) v0 11 12 (some (hp_N σ11))) fun σ13 =>
  Option.bind (st_R (nw_A σ13 (0, (1100 : Int32).toNatClampNeg, .inl (fun _ => 0))) v0 11 13 (some (hp_N σ13))) fun σ15 =>
  Option.bind (st_R (nw_A σ15 (0, (1100 : Int32).toNatClampNeg, .inl (fun _ => 0))) v0 11 14 (some (hp_N σ15))) fun σ17 =>
  Option.bind (st_R (nw_A σ17 (0, (1100 : Int32).toNatClampNeg, .inl (fun _ => 0))) v0 11 15 (some (hp_N σ17))) fun σ19 =>
  Option.bind (st_R (nw_A σ19 (0, (1100 : Int32).toNatClampNeg, .inl (fun _ => 0))) v0 11 16 (some (hp_N σ19))) fun σ21 =>
  Option.bind (st_R (nw_A σ21 (1, (1100 : Int32).toNatClampNeg, .inr (.inl (fun _ => 0)))) v0 11 17 (some (hp_N σ21))) fun σ23 =>
  Option.bind (st_R (nw_A σ23 (1, (1100 : Int32).toNatClampNeg, .inr (.inl (fun _ => 0)))) v0 11 18 (some (hp_N σ23))) fun σ25 =>
  Option.bind (st_R (nw_A σ25 (1, (1100 : Int32).toNatClampNeg, .inr (.inl (fun _ => 0)))) v0 11 19 (some (hp_N σ25))) fun σ27 =>
  Option.bind (st_R (nw_A σ27 (2, (1100 : Int32).toNatClampNeg, .inl (fun _ => 0))) v0 11 20 (some (hp_N σ27))) fun σ29 =>
  Option.bind (st_R (nw_A σ29 (2, (1100 : Int32).toNatClampNeg, .inl (fun _ => 0))) v0 11 21 (some (hp_N σ29))) fun σ31 =>
  Option.bind (st_R (nw_A σ31 (0, (32 : Int32).toNatClampNeg, .inl (fun _ => 0))) v0 11 23 (some (hp_N σ31))) fun σ33 =>
  Option.bind (st_R (nw_A σ33 (0, (2 : Int32).toNatClampNeg, .inl (fun _ => 0))) v0 11 24 (some (hp_N σ33))) fun σ35 =>
  Option.bind (st_R (nw_A σ35 (0, (8 : Int32).toNatClampNeg, .inl (fun _ => 0))) v0 11 25 (some (hp_N σ35))) fun σ37 =>
  Option.bind (st_R (nw_A σ37 (0, (8 : Int32).toNatClampNeg, .inl (fun _ => 0))) v0 11 26 (some (hp_N σ37))) fun σ39 =>
  Option.bind (st_R (nw_A σ39 (0, (32768 : Int32).toNatClampNeg, .inl (fun _ => 0))) v0 11 30 (some (hp_N σ39))) fun σ41 =>
  Option.bind (st_R (nw_A σ41 (0, (4 : Int32).toNatClampNeg, .inl (fun _ => 0))) v0 11 31 (some (hp_N σ41))) fun σ43 =>
  Option.bind (st_I σ43 v0 11 35 1) fun σ45 =>
  Option.bind (st_Z σ45 v0 11 36 1) fun σ47 =>
  Option.bind (st_R (nw_A σ47 (0, (500 : Int32).toNatClampNeg, .inl (fun _ => 0))) v0 11 46 (some (hp_N σ47))) fun σ49 =>
  Option.bind (st_R (nw_A σ49 (0, (500 : Int32).toNatClampNeg, .inl (fun _ => 0))) v0 11 47 (some (hp_N σ49))) fun σ51 =>
  Option.bind (st_R (nw_A σ51 (0, (500 : Int32).toNatClampNeg, .inl (fun _ => 0))) v0 11 48 (some (hp_N σ51))) fun σ53 =>
  if 1 ≤ v1 then
  (
    if v1 ≤ 5000 then
    (
      f_M_init_246 n  v0 v2 v3 v1 v0 σ53)
    else
    (
      f_M_init_246 n  v0 v2 v3 5000 v0 σ53))
  else
  (
    f_M_init_246 n  v0 v2 v3 1 v0 σ53)
set_option maxRecDepth 100000 in
theorem c_M_init {l : Launch} {DD : DT} (n : Nat) (v0 : Option Nat) (v1 : Int32) (v2 : Int32) (v3 : Int32) {σ0 σz : Hp} (hf : f_M_init n v0 v1 v2 v3 σ0 = some σz) : CT l DD y_M_init prog_13_method_1_code 6 none rm_M_init [tR v0, tI v1, tI v2, tI v3] σ0 none σz := by
  refine r_met (by decide) (Nat.le_of_ble_eq_true rfl) ?_
  intro p e s m args below meth c X hret hlk hnm
  unfold f_M_init at hf
  refine r_aload_n X d_M_init_0 rfl 0 rfl ?_
  obtain ⟨x1, h2, hf⟩ := obind hf
  refine r_objInit X h2 q694 q26 q27 (Nat.le_of_ble_eq_true rfl) (Nat.le_of_ble_eq_true rfl) d_M_init_1 ?_
  refine r_aload_n X d_M_init_4 rfl 0 rfl ?_
  refine r_sipush (v := 1000) X d_M_init_5 (by decide) ?_
  refine r_newa_I X 1000 (by decide) (by decide) (Nat.le_of_ble_eq_true rfl) (Nat.le_of_ble_eq_true rfl) d_M_init_8 q72 ?_
  obtain ⟨σ3, h4, hf⟩ := obind hf
  refine r_stF_R (ci := 11) (k := 6) X h4 (Nat.le_of_ble_eq_true rfl) (Nat.le_of_ble_eq_true rfl) rfl rfl rfl hnm rfl q710 d_M_init_10 ?_
  refine r_aload_n X d_M_init_13 rfl 0 rfl ?_
  refine r_sipush (v := 1000) X d_M_init_14 (by decide) ?_
  refine r_newa_I X 1000 (by decide) (by decide) (Nat.le_of_ble_eq_true rfl) (Nat.le_of_ble_eq_true rfl) d_M_init_17 q72 ?_
  obtain ⟨σ5, h6, hf⟩ := obind hf
  refine r_stF_R (ci := 11) (k := 7) X h6 (Nat.le_of_ble_eq_true rfl) (Nat.le_of_ble_eq_true rfl) rfl rfl rfl hnm rfl q711 d_M_init_19 ?_
  refine r_aload_n X d_M_init_22 rfl 0 rfl ?_
  refine r_sipush (v := 1000) X d_M_init_23 (by decide) ?_
  refine r_newa_I X 1000 (by decide) (by decide) (Nat.le_of_ble_eq_true rfl) (Nat.le_of_ble_eq_true rfl) d_M_init_26 q72 ?_
  obtain ⟨σ7, h8, hf⟩ := obind hf
  refine r_stF_R (ci := 11) (k := 8) X h8 (Nat.le_of_ble_eq_true rfl) (Nat.le_of_ble_eq_true rfl) rfl rfl rfl hnm rfl q712 d_M_init_28 ?_
  refine r_aload_n X d_M_init_31 rfl 0 rfl ?_
  refine r_sipush (v := 1000) X d_M_init_32 (by decide) ?_
  refine r_newa_I X 1000 (by decide) (by decide) (Nat.le_of_ble_eq_true rfl) (Nat.le_of_ble_eq_true rfl) d_M_init_35 q72 ?_
  obtain ⟨σ9, h10, hf⟩ := obind hf
  refine r_stF_R (ci := 11) (k := 9) X h10 (Nat.le_of_ble_eq_true rfl) (Nat.le_of_ble_eq_true rfl) rfl rfl rfl hnm rfl q713 d_M_init_37 ?_
  refine r_aload_n X d_M_init_40 rfl 0 rfl ?_
  refine r_sipush (v := 1100) X d_M_init_41 (by decide) ?_
  refine r_newa_I X 1100 (by decide) (by decide) (Nat.le_of_ble_eq_true rfl) (Nat.le_of_ble_eq_true rfl) d_M_init_44 q72 ?_
  obtain ⟨σ11, h12, hf⟩ := obind hf
  refine r_stF_R (ci := 11) (k := 11) X h12 (Nat.le_of_ble_eq_true rfl) (Nat.le_of_ble_eq_true rfl) rfl rfl rfl hnm rfl q715 d_M_init_46 ?_
  refine r_aload_n X d_M_init_49 rfl 0 rfl ?_
  refine r_sipush (v := 1100) X d_M_init_50 (by decide) ?_
  refine r_newa_I X 1100 (by decide) (by decide) (Nat.le_of_ble_eq_true rfl) (Nat.le_of_ble_eq_true rfl) d_M_init_53 q72 ?_
  obtain ⟨σ13, h14, hf⟩ := obind hf
  refine r_stF_R (ci := 11) (k := 12) X h14 (Nat.le_of_ble_eq_true rfl) (Nat.le_of_ble_eq_true rfl) rfl rfl rfl hnm rfl q716 d_M_init_55 ?_
  refine r_aload_n X d_M_init_58 rfl 0 rfl ?_
  refine r_sipush (v := 1100) X d_M_init_59 (by decide) ?_
  refine r_newa_I X 1100 (by decide) (by decide) (Nat.le_of_ble_eq_true rfl) (Nat.le_of_ble_eq_true rfl) d_M_init_62 q72 ?_
  obtain ⟨σ15, h16, hf⟩ := obind hf
  refine r_stF_R (ci := 11) (k := 13) X h16 (Nat.le_of_ble_eq_true rfl) (Nat.le_of_ble_eq_true rfl) rfl rfl rfl hnm rfl q717 d_M_init_64 ?_
  refine r_aload_n X d_M_init_67 rfl 0 rfl ?_
  refine r_sipush (v := 1100) X d_M_init_68 (by decide) ?_
  refine r_newa_I X 1100 (by decide) (by decide) (Nat.le_of_ble_eq_true rfl) (Nat.le_of_ble_eq_true rfl) d_M_init_71 q72 ?_
  obtain ⟨σ17, h18, hf⟩ := obind hf
  refine r_stF_R (ci := 11) (k := 14) X h18 (Nat.le_of_ble_eq_true rfl) (Nat.le_of_ble_eq_true rfl) rfl rfl rfl hnm rfl q718 d_M_init_73 ?_
  refine r_aload_n X d_M_init_76 rfl 0 rfl ?_
  refine r_sipush (v := 1100) X d_M_init_77 (by decide) ?_
  refine r_newa_I X 1100 (by decide) (by decide) (Nat.le_of_ble_eq_true rfl) (Nat.le_of_ble_eq_true rfl) d_M_init_80 q72 ?_
  obtain ⟨σ19, h20, hf⟩ := obind hf
  refine r_stF_R (ci := 11) (k := 15) X h20 (Nat.le_of_ble_eq_true rfl) (Nat.le_of_ble_eq_true rfl) rfl rfl rfl hnm rfl q719 d_M_init_82 ?_
  refine r_aload_n X d_M_init_85 rfl 0 rfl ?_
  refine r_sipush (v := 1100) X d_M_init_86 (by decide) ?_
  refine r_newa_I X 1100 (by decide) (by decide) (Nat.le_of_ble_eq_true rfl) (Nat.le_of_ble_eq_true rfl) d_M_init_89 q72 ?_
  obtain ⟨σ21, h22, hf⟩ := obind hf
  refine r_stF_R (ci := 11) (k := 16) X h22 (Nat.le_of_ble_eq_true rfl) (Nat.le_of_ble_eq_true rfl) rfl rfl rfl hnm rfl q720 d_M_init_91 ?_
  refine r_aload_n X d_M_init_94 rfl 0 rfl ?_
  refine r_sipush (v := 1100) X d_M_init_95 (by decide) ?_
  refine r_newa_L X 1100 (by decide) (by decide) (Nat.le_of_ble_eq_true rfl) (Nat.le_of_ble_eq_true rfl) d_M_init_98 q852 ?_
  obtain ⟨σ23, h24, hf⟩ := obind hf
  refine r_stF_R (ci := 11) (k := 17) X h24 (Nat.le_of_ble_eq_true rfl) (Nat.le_of_ble_eq_true rfl) rfl rfl rfl hnm rfl q721 d_M_init_100 ?_
  refine r_aload_n X d_M_init_103 rfl 0 rfl ?_
  refine r_sipush (v := 1100) X d_M_init_104 (by decide) ?_
  refine r_newa_L X 1100 (by decide) (by decide) (Nat.le_of_ble_eq_true rfl) (Nat.le_of_ble_eq_true rfl) d_M_init_107 q852 ?_
  obtain ⟨σ25, h26, hf⟩ := obind hf
  refine r_stF_R (ci := 11) (k := 18) X h26 (Nat.le_of_ble_eq_true rfl) (Nat.le_of_ble_eq_true rfl) rfl rfl rfl hnm rfl q722 d_M_init_109 ?_
  refine r_aload_n X d_M_init_112 rfl 0 rfl ?_
  refine r_sipush (v := 1100) X d_M_init_113 (by decide) ?_
  refine r_newa_L X 1100 (by decide) (by decide) (Nat.le_of_ble_eq_true rfl) (Nat.le_of_ble_eq_true rfl) d_M_init_116 q852 ?_
  obtain ⟨σ27, h28, hf⟩ := obind hf
  refine r_stF_R (ci := 11) (k := 19) X h28 (Nat.le_of_ble_eq_true rfl) (Nat.le_of_ble_eq_true rfl) rfl rfl rfl hnm rfl q723 d_M_init_118 ?_
  refine r_aload_n X d_M_init_121 rfl 0 rfl ?_
  refine r_sipush (v := 1100) X d_M_init_122 (by decide) ?_
  refine r_newa_Z X 1100 (by decide) (by decide) (Nat.le_of_ble_eq_true rfl) (Nat.le_of_ble_eq_true rfl) d_M_init_125 q853 ?_
  obtain ⟨σ29, h30, hf⟩ := obind hf
  refine r_stF_R (ci := 11) (k := 20) X h30 (Nat.le_of_ble_eq_true rfl) (Nat.le_of_ble_eq_true rfl) rfl rfl rfl hnm rfl q724 d_M_init_127 ?_
  refine r_aload_n X d_M_init_130 rfl 0 rfl ?_
  refine r_sipush (v := 1100) X d_M_init_131 (by decide) ?_
  refine r_newa_Z X 1100 (by decide) (by decide) (Nat.le_of_ble_eq_true rfl) (Nat.le_of_ble_eq_true rfl) d_M_init_134 q853 ?_
  obtain ⟨σ31, h32, hf⟩ := obind hf
  refine r_stF_R (ci := 11) (k := 21) X h32 (Nat.le_of_ble_eq_true rfl) (Nat.le_of_ble_eq_true rfl) rfl rfl rfl hnm rfl q725 d_M_init_136 ?_
  refine r_aload_n X d_M_init_139 rfl 0 rfl ?_
  refine r_bipush (v := 32) X d_M_init_140 (by decide) ?_
  refine r_newa_I X 32 (by decide) (by decide) (Nat.le_of_ble_eq_true rfl) (Nat.le_of_ble_eq_true rfl) d_M_init_142 q72 ?_
  obtain ⟨σ33, h34, hf⟩ := obind hf
  refine r_stF_R (ci := 11) (k := 23) X h34 (Nat.le_of_ble_eq_true rfl) (Nat.le_of_ble_eq_true rfl) rfl rfl rfl hnm rfl q727 d_M_init_144 ?_
  refine r_aload_n X d_M_init_147 rfl 0 rfl ?_
  refine r_iconst (v := 2) X d_M_init_148 (by decide) ?_
  refine r_newa_I X 2 (by decide) (by decide) (Nat.le_of_ble_eq_true rfl) (Nat.le_of_ble_eq_true rfl) d_M_init_149 q72 ?_
  obtain ⟨σ35, h36, hf⟩ := obind hf
  refine r_stF_R (ci := 11) (k := 24) X h36 (Nat.le_of_ble_eq_true rfl) (Nat.le_of_ble_eq_true rfl) rfl rfl rfl hnm rfl q728 d_M_init_151 ?_
  refine r_aload_n X d_M_init_154 rfl 0 rfl ?_
  refine r_bipush (v := 8) X d_M_init_155 (by decide) ?_
  refine r_newa_I X 8 (by decide) (by decide) (Nat.le_of_ble_eq_true rfl) (Nat.le_of_ble_eq_true rfl) d_M_init_157 q72 ?_
  obtain ⟨σ37, h38, hf⟩ := obind hf
  refine r_stF_R (ci := 11) (k := 25) X h38 (Nat.le_of_ble_eq_true rfl) (Nat.le_of_ble_eq_true rfl) rfl rfl rfl hnm rfl q729 d_M_init_159 ?_
  refine r_aload_n X d_M_init_162 rfl 0 rfl ?_
  refine r_bipush (v := 8) X d_M_init_163 (by decide) ?_
  refine r_newa_I X 8 (by decide) (by decide) (Nat.le_of_ble_eq_true rfl) (Nat.le_of_ble_eq_true rfl) d_M_init_165 q72 ?_
  obtain ⟨σ39, h40, hf⟩ := obind hf
  refine r_stF_R (ci := 11) (k := 26) X h40 (Nat.le_of_ble_eq_true rfl) (Nat.le_of_ble_eq_true rfl) rfl rfl rfl hnm rfl q730 d_M_init_167 ?_
  refine r_aload_n X d_M_init_170 rfl 0 rfl ?_
  refine r_ldc X d_M_init_171 q695 ?_
  refine r_newa_I X 32768 (by decide) (by decide) (Nat.le_of_ble_eq_true rfl) (Nat.le_of_ble_eq_true rfl) d_M_init_173 q72 ?_
  obtain ⟨σ41, h42, hf⟩ := obind hf
  refine r_stF_R (ci := 11) (k := 30) X h42 (Nat.le_of_ble_eq_true rfl) (Nat.le_of_ble_eq_true rfl) rfl rfl rfl hnm rfl q734 d_M_init_175 ?_
  refine r_aload_n X d_M_init_178 rfl 0 rfl ?_
  refine r_iconst (v := 4) X d_M_init_179 (by decide) ?_
  refine r_newa_I X 4 (by decide) (by decide) (Nat.le_of_ble_eq_true rfl) (Nat.le_of_ble_eq_true rfl) d_M_init_180 q72 ?_
  obtain ⟨σ43, h44, hf⟩ := obind hf
  refine r_stF_R (ci := 11) (k := 31) X h44 (Nat.le_of_ble_eq_true rfl) (Nat.le_of_ble_eq_true rfl) rfl rfl rfl hnm rfl q735 d_M_init_182 ?_
  refine r_aload_n X d_M_init_185 rfl 0 rfl ?_
  refine r_iconst (v := 1) X d_M_init_186 (by decide) ?_
  obtain ⟨σ45, h46, hf⟩ := obind hf
  refine r_st_I (ci := 11) (k := 35) X h46 (Nat.le_of_ble_eq_true rfl) (Nat.le_of_ble_eq_true rfl) rfl rfl rfl q739 d_M_init_187 ?_
  refine r_aload_n X d_M_init_190 rfl 0 rfl ?_
  refine r_iconst (v := 1) X d_M_init_191 (by decide) ?_
  obtain ⟨σ47, h48, hf⟩ := obind hf
  refine r_st_Z (ci := 11) (k := 36) X h48 (Nat.le_of_ble_eq_true rfl) (Nat.le_of_ble_eq_true rfl) rfl rfl rfl q740 d_M_init_192 ?_
  refine r_aload_n X d_M_init_195 rfl 0 rfl ?_
  refine r_sipush (v := 500) X d_M_init_196 (by decide) ?_
  refine r_newa_I X 500 (by decide) (by decide) (Nat.le_of_ble_eq_true rfl) (Nat.le_of_ble_eq_true rfl) d_M_init_199 q72 ?_
  obtain ⟨σ49, h50, hf⟩ := obind hf
  refine r_stF_R (ci := 11) (k := 46) X h50 (Nat.le_of_ble_eq_true rfl) (Nat.le_of_ble_eq_true rfl) rfl rfl rfl hnm rfl q750 d_M_init_201 ?_
  refine r_aload_n X d_M_init_204 rfl 0 rfl ?_
  refine r_sipush (v := 500) X d_M_init_205 (by decide) ?_
  refine r_newa_I X 500 (by decide) (by decide) (Nat.le_of_ble_eq_true rfl) (Nat.le_of_ble_eq_true rfl) d_M_init_208 q72 ?_
  obtain ⟨σ51, h52, hf⟩ := obind hf
  refine r_stF_R (ci := 11) (k := 47) X h52 (Nat.le_of_ble_eq_true rfl) (Nat.le_of_ble_eq_true rfl) rfl rfl rfl hnm rfl q751 d_M_init_210 ?_
  refine r_aload_n X d_M_init_213 rfl 0 rfl ?_
  refine r_sipush (v := 500) X d_M_init_214 (by decide) ?_
  refine r_newa_I X 500 (by decide) (by decide) (Nat.le_of_ble_eq_true rfl) (Nat.le_of_ble_eq_true rfl) d_M_init_217 q72 ?_
  obtain ⟨σ53, h54, hf⟩ := obind hf
  refine r_stF_R (ci := 11) (k := 48) X h54 (Nat.le_of_ble_eq_true rfl) (Nat.le_of_ble_eq_true rfl) rfl rfl rfl hnm rfl q752 d_M_init_219 ?_
  refine r_aload_n X d_M_init_222 rfl 0 rfl ?_
  refine r_iload_n X d_M_init_223 rfl 1 rfl ?_
  refine r_iconst (v := 1) X d_M_init_224 (by decide) ?_
  refine r_icmp_ge (tgt := 232) X d_M_init_225 (by decide) (fun hc55 => ?_) (fun hc55 => ?_)
  · have hf := (if_pos hc55).symm.trans hf
    refine r_iload_n X d_M_init_232 rfl 1 rfl ?_
    refine r_sipush (v := 5000) X d_M_init_233 (by decide) ?_
    refine r_icmp_le (tgt := 245) X d_M_init_236 (by decide) (fun hc56 => ?_) (fun hc56 => ?_)
    · have hf := (if_pos hc56).symm.trans hf
      refine r_iload_n X d_M_init_245 rfl 1 rfl ?_
      refine r_widen (kc2 := 24) (ks2 := 50422) (Nat.le_of_ble_eq_true rfl) (Nat.le_of_ble_eq_true rfl) ?_
      refine r_sub [0, 2, 3] (lv' := [(0, tR v0), (2, tI v2), (3, tI v3)]) rfl ?_
      exact b_M_init_246 X hret hlk hnm n   v0 v2 v3 v1 v0 σ53 hf
    · have hf := (if_neg hc56).symm.trans hf
      refine r_sipush (v := 5000) X d_M_init_239 (by decide) ?_
      refine r_goto (tgt := 246) X d_M_init_242 (by decide) ?_
      refine r_widen (kc2 := 24) (ks2 := 50422) (Nat.le_of_ble_eq_true rfl) (Nat.le_of_ble_eq_true rfl) ?_
      refine r_sub [0, 2, 3] (lv' := [(0, tR v0), (2, tI v2), (3, tI v3)]) rfl ?_
      exact b_M_init_246 X hret hlk hnm n   v0 v2 v3 5000 v0 σ53 hf
  · have hf := (if_neg hc55).symm.trans hf
    refine r_iconst (v := 1) X d_M_init_228 (by decide) ?_
    refine r_goto (tgt := 246) X d_M_init_229 (by decide) ?_
    refine r_widen (kc2 := 24) (ks2 := 50422) (Nat.le_of_ble_eq_true rfl) (Nat.le_of_ble_eq_true rfl) ?_
    refine r_sub [0, 2, 3] (lv' := [(0, tR v0), (2, tI v2), (3, tI v3)]) rfl ?_
    exact b_M_init_246 X hret hlk hnm n   v0 v2 v3 1 v0 σ53 hf

def f_M_thrown (v0 : Option Nat) (σ : Hp) : Option (Int32 × Hp) :=
  Option.bind (ld_I σ v0 11 0) fun x1 =>
  some (x1, σ)
set_option maxRecDepth 100000 in
theorem c_M_thrown {l : Launch} {DD : DT} (v0 : Option Nat) {σ0 σz : Hp} {rz : Int32} (hf : f_M_thrown v0 σ0 = some (rz, σz)) : CT l DD y_M_thrown prog_13_method_2_code 1 (some .int) rm_M_thrown [tR v0] σ0 (some (tI rz)) σz := by
  refine r_met (by decide) (Nat.le_of_ble_eq_true rfl) ?_
  intro p e s m args below meth c X hret hlk hnm
  unfold f_M_thrown at hf
  refine r_aload_n X d_M_thrown_0 rfl 0 rfl ?_
  obtain ⟨x1, h2, hf⟩ := obind hf
  refine r_ld_I (ci := 11) (k := 0) X h2 (Nat.le_of_ble_eq_true rfl) (Nat.le_of_ble_eq_true rfl) (Or.inl rfl) rfl q704 d_M_thrown_1 ?_
  cases hf
  refine r_widen (kc2 := rm_M_thrown.cells) (ks2 := rm_M_thrown.slots) (Nat.le_of_ble_eq_true rfl) (Nat.le_of_ble_eq_true rfl) ?_
  exact r_iret X hret hlk d_M_thrown_4

def f_M_isKey (v0 : Int32) (σ : Hp) : Option (Int32 × Hp) :=
  if v0 < 0 then
  (
    some (0, σ))
  else
  (
    if 1000 ≤ v0 then
    (
      some (0, σ))
    else
    (
      some (1, σ)))
set_option maxRecDepth 100000 in
theorem c_M_isKey {l : Launch} {DD : DT} (v0 : Int32) {σ0 σz : Hp} {rz : Int32} (hf : f_M_isKey v0 σ0 = some (rz, σz)) : CT l DD y_M_isKey prog_13_method_4_code 1 (some .boolean) rm_M_isKey [tI v0] σ0 (some (tI rz)) σz := by
  refine r_met (by decide) (Nat.le_of_ble_eq_true rfl) ?_
  intro p e s m args below meth c X hret hlk hnm
  unfold f_M_isKey at hf
  refine r_iload_n X d_M_isKey_0 rfl 0 rfl ?_
  refine r_if_lt (tgt := 15) X d_M_isKey_1 (by decide) (fun hc1 => ?_) (fun hc1 => ?_)
  · have hf := (if_pos hc1).symm.trans hf
    refine r_iconst (v := 0) X d_M_isKey_15 (by decide) ?_
    cases hf
    refine r_widen (kc2 := rm_M_isKey.cells) (ks2 := rm_M_isKey.slots) (Nat.le_of_ble_eq_true rfl) (Nat.le_of_ble_eq_true rfl) ?_
    exact r_zret X hret hlk (by decide) d_M_isKey_16
  · have hf := (if_neg hc1).symm.trans hf
    refine r_iload_n X d_M_isKey_4 rfl 0 rfl ?_
    refine r_sipush (v := 1000) X d_M_isKey_5 (by decide) ?_
    refine r_icmp_ge (tgt := 15) X d_M_isKey_8 (by decide) (fun hc2 => ?_) (fun hc2 => ?_)
    · have hf := (if_pos hc2).symm.trans hf
      refine r_iconst (v := 0) X d_M_isKey_15 (by decide) ?_
      cases hf
      refine r_widen (kc2 := rm_M_isKey.cells) (ks2 := rm_M_isKey.slots) (Nat.le_of_ble_eq_true rfl) (Nat.le_of_ble_eq_true rfl) ?_
      exact r_zret X hret hlk (by decide) d_M_isKey_16
    · have hf := (if_neg hc2).symm.trans hf
      refine r_iconst (v := 1) X d_M_isKey_11 (by decide) ?_
      refine r_goto (tgt := 16) X d_M_isKey_12 (by decide) ?_
      cases hf
      refine r_widen (kc2 := rm_M_isKey.cells) (ks2 := rm_M_isKey.slots) (Nat.le_of_ble_eq_true rfl) (Nat.le_of_ble_eq_true rfl) ?_
      exact r_zret X hret hlk (by decide) d_M_isKey_16

def f_M_end_75  (v2 : Int64) (w0 : Int64) (σ : Hp) : Option (Int64 × Hp) :=
  if 0 ≤ (lg_cmp v2 w0) then
  (
    some (w0, σ))
  else
  (
    some (v2, σ))
set_option maxRecDepth 100000 in
theorem b_M_end_75 {p : Program} {l : Launch} {e : Env} {s : State} {m : MethodId} {args : Array Value} {below : List Frame} {meth : Method} {c : Code} {DD : DT} {σ0 σz : Hp} {rz : Int64} (X : CX p s m args c prog_13_method_5_code 6 (dm σ0) DD y_M_end.cls) (hret : meth.sig.returnType = some .long) (hlk : meth.locks = false) (hnm : meth.name = y_M_end.name)   (v2 : Int64) (w0 : Int64) (σ : Hp) (hf : f_M_end_75  v2 w0 σ = some (rz, σz)) : GG p l e rm_M_end s m args below meth c 6 (dm σ0) DD (MQ below (Post DD σ0 (some (tL rz)) σz) args s rm_M_end.cells rm_M_end.slots (dm σ0)) 0 0 σ 75 [(2, tL v2)] [tL w0] := by
  unfold f_M_end_75 at hf
  refine r_lstore (lv' := [(2, tL v2), (4, tL w0)]) X [1, 0] d_M_end_75 (Nat.le_of_ble_eq_true rfl) rfl ?_
  refine r_lload_n X d_M_end_77 rfl 0 rfl ?_
  refine r_lload X d_M_end_78 1 rfl ?_
  refine r_lcmp X d_M_end_80 ?_
  refine r_if_ge (tgt := 88) X d_M_end_81 (by decide) (fun hc12 => ?_) (fun hc12 => ?_)
  · have hf := (if_pos hc12).symm.trans hf
    refine r_lload X d_M_end_88 1 rfl ?_
    cases hf
    refine r_widen (kc2 := rm_M_end.cells) (ks2 := rm_M_end.slots) (Nat.le_of_ble_eq_true rfl) (Nat.le_of_ble_eq_true rfl) ?_
    exact r_lret X hret hlk d_M_end_90
  · have hf := (if_neg hc12).symm.trans hf
    refine r_lload_n X d_M_end_84 rfl 0 rfl ?_
    refine r_goto (tgt := 90) X d_M_end_85 (by decide) ?_
    cases hf
    refine r_widen (kc2 := rm_M_end.cells) (ks2 := rm_M_end.slots) (Nat.le_of_ble_eq_true rfl) (Nat.le_of_ble_eq_true rfl) ?_
    exact r_lret X hret hlk d_M_end_90

def f_M_end_49  (v0 : Option Nat) (v1 : Int32) (w0 : Int64) (σ : Hp) : Option (Int64 × Hp) :=
  Option.bind (ld_I σ v0 11 3) fun x9 =>
  if x9 ≤ 0 then
  (
    f_M_end_75  w0 4611686018427387904 σ)
  else
  (
    Option.bind (ld_R σ v0 11 18) fun x13 =>
    Option.bind (al_L σ 1 x13 v1) fun x15 =>
    Option.bind (ld_I σ v0 11 3) fun x17 =>
    f_M_end_75  w0 (x15 + (Int32.toInt64 x17)) σ)
set_option maxRecDepth 100000 in
theorem b_M_end_49 {p : Program} {l : Launch} {e : Env} {s : State} {m : MethodId} {args : Array Value} {below : List Frame} {meth : Method} {c : Code} {DD : DT} {σ0 σz : Hp} {rz : Int64} (X : CX p s m args c prog_13_method_5_code 6 (dm σ0) DD y_M_end.cls) (hret : meth.sig.returnType = some .long) (hlk : meth.locks = false) (hnm : meth.name = y_M_end.name)   (v0 : Option Nat) (v1 : Int32) (w0 : Int64) (σ : Hp) (hf : f_M_end_49  v0 v1 w0 σ = some (rz, σz)) : GG p l e rm_M_end s m args below meth c 6 (dm σ0) DD (MQ below (Post DD σ0 (some (tL rz)) σz) args s rm_M_end.cells rm_M_end.slots (dm σ0)) 0 0 σ 49 [(0, tR v0), (1, tI v1)] [tL w0] := by
  unfold f_M_end_49 at hf
  refine r_lstore_n (lv' := [(0, tR v0), (1, tI v1), (2, tL w0)]) X [1, 2, 0] d_M_end_49 rfl (Nat.le_of_ble_eq_true rfl) rfl ?_
  refine r_aload_n X d_M_end_50 rfl 0 rfl ?_
  obtain ⟨x9, h10, hf⟩ := obind hf
  refine r_ld_I (ci := 11) (k := 3) X h10 (Nat.le_of_ble_eq_true rfl) (Nat.le_of_ble_eq_true rfl) (Or.inl rfl) rfl q707 d_M_end_51 ?_
  refine r_if_le (tgt := 72) X d_M_end_54 (by decide) (fun hc11 => ?_) (fun hc11 => ?_)
  · have hf := (if_pos hc11).symm.trans hf
    refine r_ldc2 X d_M_end_72 q881 ?_
    refine r_widen (kc2 := 0) (ks2 := 0) (Nat.le_of_ble_eq_true rfl) (Nat.le_of_ble_eq_true rfl) ?_
    refine r_sub [2] (lv' := [(2, tL w0)]) rfl ?_
    exact b_M_end_75 X hret hlk hnm   w0 4611686018427387904 σ hf
  · have hf := (if_neg hc11).symm.trans hf
    refine r_aload_n X d_M_end_57 rfl 0 rfl ?_
    obtain ⟨x13, h14, hf⟩ := obind hf
    refine r_ld_R (ci := 11) (k := 18) X h14 (Nat.le_of_ble_eq_true rfl) (Nat.le_of_ble_eq_true rfl) rfl rfl q722 d_M_end_58 ?_
    refine r_iload_n X d_M_end_61 rfl 1 rfl ?_
    obtain ⟨x15, h16, hf⟩ := obind hf
    refine r_al_L X h16 d_M_end_62 ?_
    refine r_aload_n X d_M_end_63 rfl 0 rfl ?_
    obtain ⟨x17, h18, hf⟩ := obind hf
    refine r_ld_I (ci := 11) (k := 3) X h18 (Nat.le_of_ble_eq_true rfl) (Nat.le_of_ble_eq_true rfl) (Or.inl rfl) rfl q707 d_M_end_64 ?_
    refine r_i2l X d_M_end_67 ?_
    refine r_ladd X d_M_end_68 ?_
    refine r_goto (tgt := 75) X d_M_end_69 (by decide) ?_
    refine r_widen (kc2 := 0) (ks2 := 0) (Nat.le_of_ble_eq_true rfl) (Nat.le_of_ble_eq_true rfl) ?_
    refine r_sub [2] (lv' := [(2, tL w0)]) rfl ?_
    exact b_M_end_75 X hret hlk hnm   w0 (x15 + (Int32.toInt64 x17)) σ hf

def f_M_end (v0 : Option Nat) (v1 : Int32) (σ : Hp) : Option (Int64 × Hp) :=
  Option.bind (ld_R σ v0 11 14) fun x1 =>
  Option.bind (al_I σ 0 x1 v1) fun x3 =>
  if x3 ≤ 0 then
  (
    Option.bind (ld_I σ v0 11 2) fun x6 =>
    if x6 ≤ 0 then
    (
      f_M_end_49  v0 v1 4611686018427387904 σ)
    else
    (
      Option.bind (ld_R σ v0 11 17) fun x19 =>
      Option.bind (al_L σ 1 x19 v1) fun x21 =>
      Option.bind (ld_I σ v0 11 2) fun x23 =>
      f_M_end_49  v0 v1 (x21 + (Int32.toInt64 x23)) σ))
  else
  (
    Option.bind (ld_R σ v0 11 17) fun x25 =>
    Option.bind (al_L σ 1 x25 v1) fun x27 =>
    Option.bind (ld_R σ v0 11 14) fun x29 =>
    Option.bind (al_I σ 0 x29 v1) fun x31 =>
    some (x27 + (Int32.toInt64 x31), σ))
set_option maxRecDepth 100000 in
theorem c_M_end {l : Launch} {DD : DT} (v0 : Option Nat) (v1 : Int32) {σ0 σz : Hp} {rz : Int64} (hf : f_M_end v0 v1 σ0 = some (rz, σz)) : CT l DD y_M_end prog_13_method_5_code 6 (some .long) rm_M_end [tR v0, tI v1] σ0 (some (tL rz)) σz := by
  refine r_met (by decide) (Nat.le_of_ble_eq_true rfl) ?_
  intro p e s m args below meth c X hret hlk hnm
  unfold f_M_end at hf
  refine r_aload_n X d_M_end_0 rfl 0 rfl ?_
  obtain ⟨x1, h2, hf⟩ := obind hf
  refine r_ld_R (ci := 11) (k := 14) X h2 (Nat.le_of_ble_eq_true rfl) (Nat.le_of_ble_eq_true rfl) rfl rfl q718 d_M_end_1 ?_
  refine r_iload_n X d_M_end_4 rfl 1 rfl ?_
  obtain ⟨x3, h4, hf⟩ := obind hf
  refine r_al_I X h4 d_M_end_5 ?_
  refine r_if_le (tgt := 24) X d_M_end_6 (by decide) (fun hc5 => ?_) (fun hc5 => ?_)
  · have hf := (if_pos hc5).symm.trans hf
    refine r_aload_n X d_M_end_24 rfl 0 rfl ?_
    obtain ⟨x6, h7, hf⟩ := obind hf
    refine r_ld_I (ci := 11) (k := 2) X h7 (Nat.le_of_ble_eq_true rfl) (Nat.le_of_ble_eq_true rfl) (Or.inl rfl) rfl q706 d_M_end_25 ?_
    refine r_if_le (tgt := 46) X d_M_end_28 (by decide) (fun hc8 => ?_) (fun hc8 => ?_)
    · have hf := (if_pos hc8).symm.trans hf
      refine r_ldc2 X d_M_end_46 q881 ?_
      refine r_widen (kc2 := 0) (ks2 := 0) (Nat.le_of_ble_eq_true rfl) (Nat.le_of_ble_eq_true rfl) ?_
      refine r_sub [0, 1] (lv' := [(0, tR v0), (1, tI v1)]) rfl ?_
      exact b_M_end_49 X hret hlk hnm   v0 v1 4611686018427387904 σ0 hf
    · have hf := (if_neg hc8).symm.trans hf
      refine r_aload_n X d_M_end_31 rfl 0 rfl ?_
      obtain ⟨x19, h20, hf⟩ := obind hf
      refine r_ld_R (ci := 11) (k := 17) X h20 (Nat.le_of_ble_eq_true rfl) (Nat.le_of_ble_eq_true rfl) rfl rfl q721 d_M_end_32 ?_
      refine r_iload_n X d_M_end_35 rfl 1 rfl ?_
      obtain ⟨x21, h22, hf⟩ := obind hf
      refine r_al_L X h22 d_M_end_36 ?_
      refine r_aload_n X d_M_end_37 rfl 0 rfl ?_
      obtain ⟨x23, h24, hf⟩ := obind hf
      refine r_ld_I (ci := 11) (k := 2) X h24 (Nat.le_of_ble_eq_true rfl) (Nat.le_of_ble_eq_true rfl) (Or.inl rfl) rfl q706 d_M_end_38 ?_
      refine r_i2l X d_M_end_41 ?_
      refine r_ladd X d_M_end_42 ?_
      refine r_goto (tgt := 49) X d_M_end_43 (by decide) ?_
      refine r_widen (kc2 := 0) (ks2 := 0) (Nat.le_of_ble_eq_true rfl) (Nat.le_of_ble_eq_true rfl) ?_
      refine r_sub [0, 1] (lv' := [(0, tR v0), (1, tI v1)]) rfl ?_
      exact b_M_end_49 X hret hlk hnm   v0 v1 (x21 + (Int32.toInt64 x23)) σ0 hf
  · have hf := (if_neg hc5).symm.trans hf
    refine r_aload_n X d_M_end_9 rfl 0 rfl ?_
    obtain ⟨x25, h26, hf⟩ := obind hf
    refine r_ld_R (ci := 11) (k := 17) X h26 (Nat.le_of_ble_eq_true rfl) (Nat.le_of_ble_eq_true rfl) rfl rfl q721 d_M_end_10 ?_
    refine r_iload_n X d_M_end_13 rfl 1 rfl ?_
    obtain ⟨x27, h28, hf⟩ := obind hf
    refine r_al_L X h28 d_M_end_14 ?_
    refine r_aload_n X d_M_end_15 rfl 0 rfl ?_
    obtain ⟨x29, h30, hf⟩ := obind hf
    refine r_ld_R (ci := 11) (k := 14) X h30 (Nat.le_of_ble_eq_true rfl) (Nat.le_of_ble_eq_true rfl) rfl rfl q718 d_M_end_16 ?_
    refine r_iload_n X d_M_end_19 rfl 1 rfl ?_
    obtain ⟨x31, h32, hf⟩ := obind hf
    refine r_al_I X h32 d_M_end_20 ?_
    refine r_i2l X d_M_end_21 ?_
    refine r_ladd X d_M_end_22 ?_
    cases hf
    refine r_widen (kc2 := rm_M_end.cells) (ks2 := rm_M_end.slots) (Nat.le_of_ble_eq_true rfl) (Nat.le_of_ble_eq_true rfl) ?_
    exact r_lret X hret hlk d_M_end_23

def f_M_isOver (v0 : Option Nat) (v1 : Int32) (σ : Hp) : Option (Int32 × Hp) :=
  Option.bind (is_O σ v0 11) fun x2 =>
  pb (f_M_end v0 v1 σ) fun x5 σ4 =>
  Option.bind (ld_L σ4 v0 11 5) fun x6 =>
  if 0 < (lg_cmp x5 x6) then
  (
    some (0, σ4))
  else
  (
    some (1, σ4))
set_option maxRecDepth 100000 in
theorem c_M_isOver {l : Launch} {DD : DT} (v0 : Option Nat) (v1 : Int32) {σ0 σz : Hp} {rz : Int32} (hf : f_M_isOver v0 v1 σ0 = some (rz, σz)) : CT l DD y_M_isOver prog_13_method_6_code 2 (some .boolean) rm_M_isOver [tR v0, tI v1] σ0 (some (tI rz)) σz := by
  refine r_met (by decide) (Nat.le_of_ble_eq_true rfl) ?_
  intro p e s m args below meth c X hret hlk hnm
  unfold f_M_isOver at hf
  refine r_aload_n X d_M_isOver_0 rfl 0 rfl ?_
  refine r_iload_n X d_M_isOver_1 rfl 1 rfl ?_
  obtain ⟨x2, h1, hf⟩ := obind hf
  obtain ⟨x5, σ4, h3, hf⟩ := pbind hf
  refine r_callV (st := []) X [tI v1] (ci := 11) h1 (Nat.le_of_ble_eq_true rfl) q877 q879 sl21 (c_M_end v0 v1 h3) q880 q11 y_M_end_ok rfl ⟨Nat.le_of_ble_eq_true rfl, Nat.le_of_ble_eq_true rfl⟩ (Nat.le_of_ble_eq_true rfl) ⟨Nat.le_of_ble_eq_true rfl, Nat.le_of_ble_eq_true rfl⟩ d_M_isOver_2 ?_
  refine r_aload_n X d_M_isOver_5 rfl 0 rfl ?_
  obtain ⟨x6, h7, hf⟩ := obind hf
  refine r_ld_L (ci := 11) (k := 5) X h7 (Nat.le_of_ble_eq_true rfl) (Nat.le_of_ble_eq_true rfl) rfl rfl q709 d_M_isOver_6 ?_
  refine r_lcmp X d_M_isOver_9 ?_
  refine r_if_gt (tgt := 17) X d_M_isOver_10 (by decide) (fun hc8 => ?_) (fun hc8 => ?_)
  · have hf := (if_pos hc8).symm.trans hf
    refine r_iconst (v := 0) X d_M_isOver_17 (by decide) ?_
    cases hf
    refine r_widen (kc2 := rm_M_isOver.cells) (ks2 := rm_M_isOver.slots) (Nat.le_of_ble_eq_true rfl) (Nat.le_of_ble_eq_true rfl) ?_
    exact r_zret X hret hlk (by decide) d_M_isOver_18
  · have hf := (if_neg hc8).symm.trans hf
    refine r_iconst (v := 1) X d_M_isOver_13 (by decide) ?_
    refine r_goto (tgt := 18) X d_M_isOver_14 (by decide) ?_
    cases hf
    refine r_widen (kc2 := rm_M_isOver.cells) (ks2 := rm_M_isOver.slots) (Nat.le_of_ble_eq_true rfl) (Nat.le_of_ble_eq_true rfl) ?_
    exact r_zret X hret hlk (by decide) d_M_isOver_18

def f_M_seen (v0 : Option Nat) (v1 : Int32) (σ : Hp) : Option (Int32 × Hp) :=
  Option.bind (ld_R σ v0 11 6) fun x1 =>
  Option.bind (al_I σ 0 x1 v1) fun x3 =>
  if x3 = ((-1)) then
  (
    some ((-1), σ))
  else
  (
    Option.bind (ld_R σ v0 11 6) fun x6 =>
    Option.bind (al_I σ 0 x6 v1) fun x8 =>
    Option.bind (is_O σ v0 11) fun x11 =>
    pb (f_M_isOver v0 x8 σ) fun x14 σ13 =>
    if x14 = 0 then
    (
      Option.bind (ld_R σ13 v0 11 6) fun x16 =>
      Option.bind (al_I σ13 0 x16 v1) fun x18 =>
      some (x18, σ13))
    else
    (
      some ((-1), σ13)))
set_option maxRecDepth 100000 in
theorem c_M_seen {l : Launch} {DD : DT} (v0 : Option Nat) (v1 : Int32) {σ0 σz : Hp} {rz : Int32} (hf : f_M_seen v0 v1 σ0 = some (rz, σz)) : CT l DD y_M_seen prog_13_method_7_code 2 (some .int) rm_M_seen [tR v0, tI v1] σ0 (some (tI rz)) σz := by
  refine r_met (by decide) (Nat.le_of_ble_eq_true rfl) ?_
  intro p e s m args below meth c X hret hlk hnm
  unfold f_M_seen at hf
  refine r_aload_n X d_M_seen_0 rfl 0 rfl ?_
  obtain ⟨x1, h2, hf⟩ := obind hf
  refine r_ld_R (ci := 11) (k := 6) X h2 (Nat.le_of_ble_eq_true rfl) (Nat.le_of_ble_eq_true rfl) rfl rfl q710 d_M_seen_1 ?_
  refine r_iload_n X d_M_seen_4 rfl 1 rfl ?_
  obtain ⟨x3, h4, hf⟩ := obind hf
  refine r_al_I X h4 d_M_seen_5 ?_
  refine r_iconst (v := -1) X d_M_seen_6 (by decide) ?_
  refine r_icmp_eq (tgt := 32) X d_M_seen_7 (by decide) (fun hc5 => ?_) (fun hc5 => ?_)
  · have hf := (if_pos hc5).symm.trans hf
    refine r_iconst (v := -1) X d_M_seen_32 (by decide) ?_
    cases hf
    refine r_widen (kc2 := rm_M_seen.cells) (ks2 := rm_M_seen.slots) (Nat.le_of_ble_eq_true rfl) (Nat.le_of_ble_eq_true rfl) ?_
    exact r_iret X hret hlk d_M_seen_33
  · have hf := (if_neg hc5).symm.trans hf
    refine r_aload_n X d_M_seen_10 rfl 0 rfl ?_
    refine r_aload_n X d_M_seen_11 rfl 0 rfl ?_
    obtain ⟨x6, h7, hf⟩ := obind hf
    refine r_ld_R (ci := 11) (k := 6) X h7 (Nat.le_of_ble_eq_true rfl) (Nat.le_of_ble_eq_true rfl) rfl rfl q710 d_M_seen_12 ?_
    refine r_iload_n X d_M_seen_15 rfl 1 rfl ?_
    obtain ⟨x8, h9, hf⟩ := obind hf
    refine r_al_I X h9 d_M_seen_16 ?_
    obtain ⟨x11, h10, hf⟩ := obind hf
    obtain ⟨x14, σ13, h12, hf⟩ := pbind hf
    refine r_callV (st := []) X [tI x8] (ci := 11) h10 (Nat.le_of_ble_eq_true rfl) q873 q875 sl20 (c_M_isOver v0 x8 h12) q876 q11 y_M_isOver_ok rfl ⟨Nat.le_of_ble_eq_true rfl, Nat.le_of_ble_eq_true rfl⟩ (Nat.le_of_ble_eq_true rfl) ⟨Nat.le_of_ble_eq_true rfl, Nat.le_of_ble_eq_true rfl⟩ d_M_seen_17 ?_
    refine r_if_ne (tgt := 32) X d_M_seen_20 (by decide) (fun hc15 => ?_) (fun hc15 => ?_)
    · have hf := (if_neg hc15).symm.trans hf
      refine r_iconst (v := -1) X d_M_seen_32 (by decide) ?_
      cases hf
      refine r_widen (kc2 := rm_M_seen.cells) (ks2 := rm_M_seen.slots) (Nat.le_of_ble_eq_true rfl) (Nat.le_of_ble_eq_true rfl) ?_
      exact r_iret X hret hlk d_M_seen_33
    · have hf := (if_pos hc15).symm.trans hf
      refine r_aload_n X d_M_seen_23 rfl 0 rfl ?_
      obtain ⟨x16, h17, hf⟩ := obind hf
      refine r_ld_R (ci := 11) (k := 6) X h17 (Nat.le_of_ble_eq_true rfl) (Nat.le_of_ble_eq_true rfl) rfl rfl q710 d_M_seen_24 ?_
      refine r_iload_n X d_M_seen_27 rfl 1 rfl ?_
      obtain ⟨x18, h19, hf⟩ := obind hf
      refine r_al_I X h19 d_M_seen_28 ?_
      refine r_goto (tgt := 33) X d_M_seen_29 (by decide) ?_
      cases hf
      refine r_widen (kc2 := rm_M_seen.cells) (ks2 := rm_M_seen.slots) (Nat.le_of_ble_eq_true rfl) (Nat.le_of_ble_eq_true rfl) ?_
      exact r_iret X hret hlk d_M_seen_33

def f_M_got_118  (v0 : Option Nat) (v2 : Int32) (σ : Hp) : Option (Int32 × Hp) :=
  Option.bind (ld_R σ v0 11 12) fun x40 =>
  Option.bind (al_I σ 0 x40 v2) fun x42 =>
  some (x42, σ)
set_option maxRecDepth 100000 in
theorem b_M_got_118 {p : Program} {l : Launch} {e : Env} {s : State} {m : MethodId} {args : Array Value} {below : List Frame} {meth : Method} {c : Code} {DD : DT} {σ0 σz : Hp} {rz : Int32} (X : CX p s m args c prog_13_method_29_code 4 (dm σ0) DD y_M_got.cls) (hret : meth.sig.returnType = some .int) (hlk : meth.locks = false) (hnm : meth.name = y_M_got.name)   (v0 : Option Nat) (v2 : Int32) (σ : Hp) (hf : f_M_got_118  v0 v2 σ = some (rz, σz)) : GG p l e rm_M_got s m args below meth c 4 (dm σ0) DD (MQ below (Post DD σ0 (some (tI rz)) σz) args s rm_M_got.cells rm_M_got.slots (dm σ0)) 0 0 σ 118 [(0, tR v0), (2, tI v2)] [] := by
  unfold f_M_got_118 at hf
  refine r_aload_n X d_M_got_118 rfl 0 rfl ?_
  obtain ⟨x40, h41, hf⟩ := obind hf
  refine r_ld_R (ci := 11) (k := 12) X h41 (Nat.le_of_ble_eq_true rfl) (Nat.le_of_ble_eq_true rfl) rfl rfl q716 d_M_got_119 ?_
  refine r_iload_n X d_M_got_122 rfl 1 rfl ?_
  obtain ⟨x42, h43, hf⟩ := obind hf
  refine r_al_I X h43 d_M_got_123 ?_
  cases hf
  refine r_widen (kc2 := rm_M_got.cells) (ks2 := rm_M_got.slots) (Nat.le_of_ble_eq_true rfl) (Nat.le_of_ble_eq_true rfl) ?_
  exact r_iret X hret hlk d_M_got_124

def f_M_got (v0 : Option Nat) (v1 : Int32) (σ : Hp) : Option (Int32 × Hp) :=
  Option.bind (is_O σ v0 11) fun x2 =>
  pb (f_M_seen v0 v1 σ) fun x5 σ4 =>
  if x5 = ((-1)) then
  (
    Option.bind (ld_I σ4 v0 11 38) fun x48 =>
    Option.bind (st_I σ4 v0 11 38 (x48 + 1)) fun σ50 =>
    Option.bind (ld_I σ50 v0 11 40) fun x52 =>
    Option.bind (st_I σ50 v0 11 40 (x52 + 1)) fun σ54 =>
    some ((-1), σ54))
  else
  (
    Option.bind (ld_I σ4 v0 11 37) fun x7 =>
    Option.bind (st_I σ4 v0 11 37 (x7 + 1)) fun σ9 =>
    Option.bind (ld_I σ9 v0 11 39) fun x11 =>
    Option.bind (st_I σ9 v0 11 39 (x11 + 1)) fun σ13 =>
    Option.bind (ld_R σ13 v0 11 18) fun x15 =>
    Option.bind (ld_L σ13 v0 11 5) fun x17 =>
    Option.bind (as_L σ13 1 x15 x5 x17) fun σ19 =>
    Option.bind (ld_R σ19 v0 11 24) fun x21 =>
    Option.bind (al_I σ19 0 x21 (v1 - v1 / 2 * 2)) fun x23 =>
    if x23 = 16 then
    (
      Option.bind (ld_I σ19 v0 11 28) fun x44 =>
      Option.bind (st_I σ19 v0 11 28 (x44 + 1)) fun σ46 =>
      f_M_got_118  v0 x5 σ46)
    else
    (
      Option.bind (ld_R σ19 v0 11 23) fun x26 =>
      Option.bind (ld_R σ19 v0 11 24) fun x28 =>
      Option.bind (al_I σ19 0 x28 (v1 - v1 / 2 * 2)) fun x30 =>
      Option.bind (as_I σ19 0 x26 ((16 * (v1 - v1 / 2 * 2)) + x30) x5) fun σ32 =>
      Option.bind (ld_R σ32 v0 11 24) fun x34 =>
      Option.bind (al_I σ32 0 x34 (v1 - v1 / 2 * 2)) fun x36 =>
      Option.bind (as_I σ32 0 x34 (v1 - v1 / 2 * 2) (x36 + 1)) fun σ38 =>
      f_M_got_118  v0 x5 σ38))
set_option maxRecDepth 100000 in
theorem c_M_got {l : Launch} {DD : DT} (v0 : Option Nat) (v1 : Int32) {σ0 σz : Hp} {rz : Int32} (hf : f_M_got v0 v1 σ0 = some (rz, σz)) : CT l DD y_M_got prog_13_method_29_code 4 (some .int) rm_M_got [tR v0, tI v1] σ0 (some (tI rz)) σz := by
  refine r_met (by decide) (Nat.le_of_ble_eq_true rfl) ?_
  intro p e s m args below meth c X hret hlk hnm
  unfold f_M_got at hf
  refine r_aload_n X d_M_got_0 rfl 0 rfl ?_
  refine r_iload_n X d_M_got_1 rfl 1 rfl ?_
  obtain ⟨x2, h1, hf⟩ := obind hf
  obtain ⟨x5, σ4, h3, hf⟩ := pbind hf
  refine r_callV (st := []) X [tI v1] (ci := 11) h1 (Nat.le_of_ble_eq_true rfl) q869 q871 sl19 (c_M_seen v0 v1 h3) q872 q11 y_M_seen_ok rfl ⟨Nat.le_of_ble_eq_true rfl, Nat.le_of_ble_eq_true rfl⟩ (Nat.le_of_ble_eq_true rfl) ⟨Nat.le_of_ble_eq_true rfl, Nat.le_of_ble_eq_true rfl⟩ d_M_got_2 ?_
  refine r_istore_n (lv' := [(0, tR v0), (1, tI v1), (2, tI x5)]) X [1, 2, 0] d_M_got_5 rfl (Nat.le_of_ble_eq_true rfl) rfl ?_
  refine r_iload_n X d_M_got_6 rfl 2 rfl ?_
  refine r_iconst (v := -1) X d_M_got_7 (by decide) ?_
  refine r_icmp_ne (tgt := 33) X d_M_got_8 (by decide) (fun hc6 => ?_) (fun hc6 => ?_)
  · have hf := (if_neg hc6).symm.trans hf
    refine r_aload_n X d_M_got_33 rfl 0 rfl ?_
    refine r_dup X d_M_got_34 rfl ?_
    obtain ⟨x7, h8, hf⟩ := obind hf
    refine r_ld_I (ci := 11) (k := 37) X h8 (Nat.le_of_ble_eq_true rfl) (Nat.le_of_ble_eq_true rfl) (Or.inl rfl) rfl q741 d_M_got_35 ?_
    refine r_iconst (v := 1) X d_M_got_38 (by decide) ?_
    refine r_iadd X d_M_got_39 ?_
    obtain ⟨σ9, h10, hf⟩ := obind hf
    refine r_st_I (ci := 11) (k := 37) X h10 (Nat.le_of_ble_eq_true rfl) (Nat.le_of_ble_eq_true rfl) rfl rfl rfl q741 d_M_got_40 ?_
    refine r_aload_n X d_M_got_43 rfl 0 rfl ?_
    refine r_dup X d_M_got_44 rfl ?_
    obtain ⟨x11, h12, hf⟩ := obind hf
    refine r_ld_I (ci := 11) (k := 39) X h12 (Nat.le_of_ble_eq_true rfl) (Nat.le_of_ble_eq_true rfl) (Or.inl rfl) rfl q743 d_M_got_45 ?_
    refine r_iconst (v := 1) X d_M_got_48 (by decide) ?_
    refine r_iadd X d_M_got_49 ?_
    obtain ⟨σ13, h14, hf⟩ := obind hf
    refine r_st_I (ci := 11) (k := 39) X h14 (Nat.le_of_ble_eq_true rfl) (Nat.le_of_ble_eq_true rfl) rfl rfl rfl q743 d_M_got_50 ?_
    refine r_aload_n X d_M_got_53 rfl 0 rfl ?_
    obtain ⟨x15, h16, hf⟩ := obind hf
    refine r_ld_R (ci := 11) (k := 18) X h16 (Nat.le_of_ble_eq_true rfl) (Nat.le_of_ble_eq_true rfl) rfl rfl q722 d_M_got_54 ?_
    refine r_iload_n X d_M_got_57 rfl 2 rfl ?_
    refine r_aload_n X d_M_got_58 rfl 0 rfl ?_
    obtain ⟨x17, h18, hf⟩ := obind hf
    refine r_ld_L (ci := 11) (k := 5) X h18 (Nat.le_of_ble_eq_true rfl) (Nat.le_of_ble_eq_true rfl) rfl rfl q709 d_M_got_59 ?_
    obtain ⟨σ19, h20, hf⟩ := obind hf
    refine r_as_L X h20 d_M_got_62 ?_
    refine r_iload_n X d_M_got_63 rfl 1 rfl ?_
    refine r_iconst (v := 2) X d_M_got_64 (by decide) ?_
    refine r_irem X d_M_got_65 (by decide) ?_
    refine r_istore_n (lv' := [(0, tR v0), (2, tI x5), (3, tI (v1 - v1 / 2 * 2))]) X [1, 3, 0] d_M_got_66 rfl (Nat.le_of_ble_eq_true rfl) rfl ?_
    refine r_aload_n X d_M_got_67 rfl 0 rfl ?_
    obtain ⟨x21, h22, hf⟩ := obind hf
    refine r_ld_R (ci := 11) (k := 24) X h22 (Nat.le_of_ble_eq_true rfl) (Nat.le_of_ble_eq_true rfl) rfl rfl q728 d_M_got_68 ?_
    refine r_iload_n X d_M_got_71 rfl 2 rfl ?_
    obtain ⟨x23, h24, hf⟩ := obind hf
    refine r_al_I X h24 d_M_got_72 ?_
    refine r_bipush (v := 16) X d_M_got_73 (by decide) ?_
    refine r_icmp_ne (tgt := 91) X d_M_got_75 (by decide) (fun hc25 => ?_) (fun hc25 => ?_)
    · have hf := (if_neg hc25).symm.trans hf
      refine r_aload_n X d_M_got_91 rfl 0 rfl ?_
      obtain ⟨x26, h27, hf⟩ := obind hf
      refine r_ld_R (ci := 11) (k := 23) X h27 (Nat.le_of_ble_eq_true rfl) (Nat.le_of_ble_eq_true rfl) rfl rfl q727 d_M_got_92 ?_
      refine r_bipush (v := 16) X d_M_got_95 (by decide) ?_
      refine r_iload_n X d_M_got_97 rfl 2 rfl ?_
      refine r_imul X d_M_got_98 ?_
      refine r_aload_n X d_M_got_99 rfl 0 rfl ?_
      obtain ⟨x28, h29, hf⟩ := obind hf
      refine r_ld_R (ci := 11) (k := 24) X h29 (Nat.le_of_ble_eq_true rfl) (Nat.le_of_ble_eq_true rfl) rfl rfl q728 d_M_got_100 ?_
      refine r_iload_n X d_M_got_103 rfl 2 rfl ?_
      obtain ⟨x30, h31, hf⟩ := obind hf
      refine r_al_I X h31 d_M_got_104 ?_
      refine r_iadd X d_M_got_105 ?_
      refine r_iload_n X d_M_got_106 rfl 1 rfl ?_
      obtain ⟨σ32, h33, hf⟩ := obind hf
      refine r_as_I X h33 d_M_got_107 ?_
      refine r_aload_n X d_M_got_108 rfl 0 rfl ?_
      obtain ⟨x34, h35, hf⟩ := obind hf
      refine r_ld_R (ci := 11) (k := 24) X h35 (Nat.le_of_ble_eq_true rfl) (Nat.le_of_ble_eq_true rfl) rfl rfl q728 d_M_got_109 ?_
      refine r_iload_n X d_M_got_112 rfl 2 rfl ?_
      refine r_dup2 X d_M_got_113 rfl rfl ?_
      obtain ⟨x36, h37, hf⟩ := obind hf
      refine r_al_I X h37 d_M_got_114 ?_
      refine r_iconst (v := 1) X d_M_got_115 (by decide) ?_
      refine r_iadd X d_M_got_116 ?_
      obtain ⟨σ38, h39, hf⟩ := obind hf
      refine r_as_I X h39 d_M_got_117 ?_
      refine r_widen (kc2 := 0) (ks2 := 0) (Nat.le_of_ble_eq_true rfl) (Nat.le_of_ble_eq_true rfl) ?_
      refine r_sub [0, 1] (lv' := [(0, tR v0), (2, tI x5)]) rfl ?_
      exact b_M_got_118 X hret hlk hnm   v0 x5 σ38 hf
    · have hf := (if_pos hc25).symm.trans hf
      refine r_aload_n X d_M_got_78 rfl 0 rfl ?_
      refine r_dup X d_M_got_79 rfl ?_
      obtain ⟨x44, h45, hf⟩ := obind hf
      refine r_ld_I (ci := 11) (k := 28) X h45 (Nat.le_of_ble_eq_true rfl) (Nat.le_of_ble_eq_true rfl) (Or.inl rfl) rfl q732 d_M_got_80 ?_
      refine r_iconst (v := 1) X d_M_got_83 (by decide) ?_
      refine r_iadd X d_M_got_84 ?_
      obtain ⟨σ46, h47, hf⟩ := obind hf
      refine r_st_I (ci := 11) (k := 28) X h47 (Nat.le_of_ble_eq_true rfl) (Nat.le_of_ble_eq_true rfl) rfl rfl rfl q732 d_M_got_85 ?_
      refine r_goto (tgt := 118) X d_M_got_88 (by decide) ?_
      refine r_widen (kc2 := 0) (ks2 := 0) (Nat.le_of_ble_eq_true rfl) (Nat.le_of_ble_eq_true rfl) ?_
      refine r_sub [0, 1] (lv' := [(0, tR v0), (2, tI x5)]) rfl ?_
      exact b_M_got_118 X hret hlk hnm   v0 x5 σ46 hf
  · have hf := (if_pos hc6).symm.trans hf
    refine r_aload_n X d_M_got_11 rfl 0 rfl ?_
    refine r_dup X d_M_got_12 rfl ?_
    obtain ⟨x48, h49, hf⟩ := obind hf
    refine r_ld_I (ci := 11) (k := 38) X h49 (Nat.le_of_ble_eq_true rfl) (Nat.le_of_ble_eq_true rfl) (Or.inl rfl) rfl q742 d_M_got_13 ?_
    refine r_iconst (v := 1) X d_M_got_16 (by decide) ?_
    refine r_iadd X d_M_got_17 ?_
    obtain ⟨σ50, h51, hf⟩ := obind hf
    refine r_st_I (ci := 11) (k := 38) X h51 (Nat.le_of_ble_eq_true rfl) (Nat.le_of_ble_eq_true rfl) rfl rfl rfl q742 d_M_got_18 ?_
    refine r_aload_n X d_M_got_21 rfl 0 rfl ?_
    refine r_dup X d_M_got_22 rfl ?_
    obtain ⟨x52, h53, hf⟩ := obind hf
    refine r_ld_I (ci := 11) (k := 40) X h53 (Nat.le_of_ble_eq_true rfl) (Nat.le_of_ble_eq_true rfl) (Or.inl rfl) rfl q744 d_M_got_23 ?_
    refine r_iconst (v := 1) X d_M_got_26 (by decide) ?_
    refine r_iadd X d_M_got_27 ?_
    obtain ⟨σ54, h55, hf⟩ := obind hf
    refine r_st_I (ci := 11) (k := 40) X h55 (Nat.le_of_ble_eq_true rfl) (Nat.le_of_ble_eq_true rfl) rfl rfl rfl q744 d_M_got_28 ?_
    refine r_iconst (v := -1) X d_M_got_31 (by decide) ?_
    cases hf
    refine r_widen (kc2 := rm_M_got.cells) (ks2 := rm_M_got.slots) (Nat.le_of_ble_eq_true rfl) (Nat.le_of_ble_eq_true rfl) ?_
    exact r_iret X hret hlk d_M_got_32

def f_M_get (v0 : Option Nat) (v1 : Int32) (σ : Hp) : Option (Int32 × Hp) :=
  Option.bind (st_I σ v0 11 0 0) fun σ1 =>
  pb (f_M_isKey v1 σ1) fun x5 σ4 =>
  if x5 = 0 then
  (
    some ((-1), σ4))
  else
  (
    Option.bind (is_O σ4 v0 11) fun x8 =>
    pb (f_M_got v0 v1 σ4) fun x11 σ10 =>
    some (x11, σ10))
set_option maxRecDepth 100000 in
theorem c_M_get {l : Launch} {DD : DT} (v0 : Option Nat) (v1 : Int32) {σ0 σz : Hp} {rz : Int32} (hf : f_M_get v0 v1 σ0 = some (rz, σz)) : CT l DD y_M_get prog_13_method_30_code 2 (some .int) rm_M_get [tR v0, tI v1] σ0 (some (tI rz)) σz := by
  refine r_met (by decide) (Nat.le_of_ble_eq_true rfl) ?_
  intro p e s m args below meth c X hret hlk hnm
  unfold f_M_get at hf
  refine r_aload_n X d_M_get_0 rfl 0 rfl ?_
  refine r_iconst (v := 0) X d_M_get_1 (by decide) ?_
  obtain ⟨σ1, h2, hf⟩ := obind hf
  refine r_st_I (ci := 11) (k := 0) X h2 (Nat.le_of_ble_eq_true rfl) (Nat.le_of_ble_eq_true rfl) rfl rfl rfl q704 d_M_get_2 ?_
  refine r_iload_n X d_M_get_5 rfl 1 rfl ?_
  obtain ⟨x5, σ4, h3, hf⟩ := pbind hf
  refine r_callS (st := []) X [tI v1] q862 q863 (c_M_isKey v1 h3) q864 q11 y_M_isKey_ok rfl ⟨Nat.le_of_ble_eq_true rfl, Nat.le_of_ble_eq_true rfl⟩ (Nat.le_of_ble_eq_true rfl) ⟨Nat.le_of_ble_eq_true rfl, Nat.le_of_ble_eq_true rfl⟩ d_M_get_6 ?_
  refine r_if_eq (tgt := 20) X d_M_get_9 (by decide) (fun hc6 => ?_) (fun hc6 => ?_)
  · have hf := (if_pos hc6).symm.trans hf
    refine r_iconst (v := -1) X d_M_get_20 (by decide) ?_
    cases hf
    refine r_widen (kc2 := rm_M_get.cells) (ks2 := rm_M_get.slots) (Nat.le_of_ble_eq_true rfl) (Nat.le_of_ble_eq_true rfl) ?_
    exact r_iret X hret hlk d_M_get_21
  · have hf := (if_neg hc6).symm.trans hf
    refine r_aload_n X d_M_get_12 rfl 0 rfl ?_
    refine r_iload_n X d_M_get_13 rfl 1 rfl ?_
    obtain ⟨x8, h7, hf⟩ := obind hf
    obtain ⟨x11, σ10, h9, hf⟩ := pbind hf
    refine r_callV (st := []) X [tI v1] (ci := 11) h7 (Nat.le_of_ble_eq_true rfl) q865 q867 sl18 (c_M_got v0 v1 h9) q868 q11 y_M_got_ok rfl ⟨Nat.le_of_ble_eq_true rfl, Nat.le_of_ble_eq_true rfl⟩ (Nat.le_of_ble_eq_true rfl) ⟨Nat.le_of_ble_eq_true rfl, Nat.le_of_ble_eq_true rfl⟩ d_M_get_14 ?_
    refine r_goto (tgt := 21) X d_M_get_17 (by decide) ?_
    cases hf
    refine r_widen (kc2 := rm_M_get.cells) (ks2 := rm_M_get.slots) (Nat.le_of_ble_eq_true rfl) (Nat.le_of_ble_eq_true rfl) ?_
    exact r_iret X hret hlk d_M_get_21

def f_M_has (v0 : Option Nat) (v1 : Int32) (σ : Hp) : Option (Int32 × Hp) :=
  Option.bind (st_I σ v0 11 0 0) fun σ1 =>
  pb (f_M_isKey v1 σ1) fun x5 σ4 =>
  if x5 = 0 then
  (
    some (0, σ4))
  else
  (
    Option.bind (is_O σ4 v0 11) fun x8 =>
    pb (f_M_seen v0 v1 σ4) fun x11 σ10 =>
    if x11 = ((-1)) then
    (
      some (0, σ10))
    else
    (
      some (1, σ10)))
set_option maxRecDepth 100000 in
theorem c_M_has {l : Launch} {DD : DT} (v0 : Option Nat) (v1 : Int32) {σ0 σz : Hp} {rz : Int32} (hf : f_M_has v0 v1 σ0 = some (rz, σz)) : CT l DD y_M_has prog_13_method_31_code 2 (some .boolean) rm_M_has [tR v0, tI v1] σ0 (some (tI rz)) σz := by
  refine r_met (by decide) (Nat.le_of_ble_eq_true rfl) ?_
  intro p e s m args below meth c X hret hlk hnm
  unfold f_M_has at hf
  refine r_aload_n X d_M_has_0 rfl 0 rfl ?_
  refine r_iconst (v := 0) X d_M_has_1 (by decide) ?_
  obtain ⟨σ1, h2, hf⟩ := obind hf
  refine r_st_I (ci := 11) (k := 0) X h2 (Nat.le_of_ble_eq_true rfl) (Nat.le_of_ble_eq_true rfl) rfl rfl rfl q704 d_M_has_2 ?_
  refine r_iload_n X d_M_has_5 rfl 1 rfl ?_
  obtain ⟨x5, σ4, h3, hf⟩ := pbind hf
  refine r_callS (st := []) X [tI v1] q862 q863 (c_M_isKey v1 h3) q864 q11 y_M_isKey_ok rfl ⟨Nat.le_of_ble_eq_true rfl, Nat.le_of_ble_eq_true rfl⟩ (Nat.le_of_ble_eq_true rfl) ⟨Nat.le_of_ble_eq_true rfl, Nat.le_of_ble_eq_true rfl⟩ d_M_has_6 ?_
  refine r_if_eq (tgt := 25) X d_M_has_9 (by decide) (fun hc6 => ?_) (fun hc6 => ?_)
  · have hf := (if_pos hc6).symm.trans hf
    refine r_iconst (v := 0) X d_M_has_25 (by decide) ?_
    cases hf
    refine r_widen (kc2 := rm_M_has.cells) (ks2 := rm_M_has.slots) (Nat.le_of_ble_eq_true rfl) (Nat.le_of_ble_eq_true rfl) ?_
    exact r_zret X hret hlk (by decide) d_M_has_26
  · have hf := (if_neg hc6).symm.trans hf
    refine r_aload_n X d_M_has_12 rfl 0 rfl ?_
    refine r_iload_n X d_M_has_13 rfl 1 rfl ?_
    obtain ⟨x8, h7, hf⟩ := obind hf
    obtain ⟨x11, σ10, h9, hf⟩ := pbind hf
    refine r_callV (st := []) X [tI v1] (ci := 11) h7 (Nat.le_of_ble_eq_true rfl) q869 q871 sl19 (c_M_seen v0 v1 h9) q872 q11 y_M_seen_ok rfl ⟨Nat.le_of_ble_eq_true rfl, Nat.le_of_ble_eq_true rfl⟩ (Nat.le_of_ble_eq_true rfl) ⟨Nat.le_of_ble_eq_true rfl, Nat.le_of_ble_eq_true rfl⟩ d_M_has_14 ?_
    refine r_iconst (v := -1) X d_M_has_17 (by decide) ?_
    refine r_icmp_eq (tgt := 25) X d_M_has_18 (by decide) (fun hc12 => ?_) (fun hc12 => ?_)
    · have hf := (if_pos hc12).symm.trans hf
      refine r_iconst (v := 0) X d_M_has_25 (by decide) ?_
      cases hf
      refine r_widen (kc2 := rm_M_has.cells) (ks2 := rm_M_has.slots) (Nat.le_of_ble_eq_true rfl) (Nat.le_of_ble_eq_true rfl) ?_
      exact r_zret X hret hlk (by decide) d_M_has_26
    · have hf := (if_neg hc12).symm.trans hf
      refine r_iconst (v := 1) X d_M_has_21 (by decide) ?_
      refine r_goto (tgt := 26) X d_M_has_22 (by decide) ?_
      cases hf
      refine r_widen (kc2 := rm_M_has.cells) (ks2 := rm_M_has.slots) (Nat.le_of_ble_eq_true rfl) (Nat.le_of_ble_eq_true rfl) ?_
      exact r_zret X hret hlk (by decide) d_M_has_26

def f_M_hear (v0 : Option Nat) (v1 : Int32) (v2 : Int32) (σ : Hp) : Option Hp :=
  Option.bind (ld_I σ v0 11 45) fun x1 =>
  if 500 ≤ x1 then
  (
    some σ)
  else
  (
    Option.bind (ld_R σ v0 11 46) fun x4 =>
    Option.bind (ld_I σ v0 11 45) fun x6 =>
    Option.bind (ld_R σ v0 11 11) fun x8 =>
    Option.bind (al_I σ 0 x8 v1) fun x10 =>
    Option.bind (as_I σ 0 x4 x6 x10) fun σ12 =>
    Option.bind (ld_R σ12 v0 11 47) fun x14 =>
    Option.bind (ld_I σ12 v0 11 45) fun x16 =>
    Option.bind (ld_R σ12 v0 11 12) fun x18 =>
    Option.bind (al_I σ12 0 x18 v1) fun x20 =>
    Option.bind (as_I σ12 0 x14 x16 x20) fun σ22 =>
    Option.bind (ld_R σ22 v0 11 48) fun x24 =>
    Option.bind (ld_I σ22 v0 11 45) fun x26 =>
    Option.bind (as_I σ22 0 x24 x26 v2) fun σ28 =>
    Option.bind (ld_I σ28 v0 11 45) fun x30 =>
    Option.bind (st_I σ28 v0 11 45 (x30 + 1)) fun σ32 =>
    some σ32)
set_option maxRecDepth 100000 in
theorem c_M_hear {l : Launch} {DD : DT} (v0 : Option Nat) (v1 : Int32) (v2 : Int32) {σ0 σz : Hp} (hf : f_M_hear v0 v1 v2 σ0 = some σz) : CT l DD y_M_hear prog_13_method_17_code 3 none rm_M_hear [tR v0, tI v1, tI v2] σ0 none σz := by
  refine r_met (by decide) (Nat.le_of_ble_eq_true rfl) ?_
  intro p e s m args below meth c X hret hlk hnm
  unfold f_M_hear at hf
  refine r_aload_n X d_M_hear_0 rfl 0 rfl ?_
  obtain ⟨x1, h2, hf⟩ := obind hf
  refine r_ld_I (ci := 11) (k := 45) X h2 (Nat.le_of_ble_eq_true rfl) (Nat.le_of_ble_eq_true rfl) (Or.inl rfl) rfl q749 d_M_hear_1 ?_
  refine r_sipush (v := 500) X d_M_hear_4 (by decide) ?_
  refine r_icmp_ge (tgt := 60) X d_M_hear_7 (by decide) (fun hc3 => ?_) (fun hc3 => ?_)
  · have hf := (if_pos hc3).symm.trans hf
    cases hf
    refine r_widen (kc2 := rm_M_hear.cells) (ks2 := rm_M_hear.slots) (Nat.le_of_ble_eq_true rfl) (Nat.le_of_ble_eq_true rfl) ?_
    exact r_vret X hret hlk d_M_hear_60
  · have hf := (if_neg hc3).symm.trans hf
    refine r_aload_n X d_M_hear_10 rfl 0 rfl ?_
    obtain ⟨x4, h5, hf⟩ := obind hf
    refine r_ld_R (ci := 11) (k := 46) X h5 (Nat.le_of_ble_eq_true rfl) (Nat.le_of_ble_eq_true rfl) rfl rfl q750 d_M_hear_11 ?_
    refine r_aload_n X d_M_hear_14 rfl 0 rfl ?_
    obtain ⟨x6, h7, hf⟩ := obind hf
    refine r_ld_I (ci := 11) (k := 45) X h7 (Nat.le_of_ble_eq_true rfl) (Nat.le_of_ble_eq_true rfl) (Or.inl rfl) rfl q749 d_M_hear_15 ?_
    refine r_aload_n X d_M_hear_18 rfl 0 rfl ?_
    obtain ⟨x8, h9, hf⟩ := obind hf
    refine r_ld_R (ci := 11) (k := 11) X h9 (Nat.le_of_ble_eq_true rfl) (Nat.le_of_ble_eq_true rfl) rfl rfl q715 d_M_hear_19 ?_
    refine r_iload_n X d_M_hear_22 rfl 1 rfl ?_
    obtain ⟨x10, h11, hf⟩ := obind hf
    refine r_al_I X h11 d_M_hear_23 ?_
    obtain ⟨σ12, h13, hf⟩ := obind hf
    refine r_as_I X h13 d_M_hear_24 ?_
    refine r_aload_n X d_M_hear_25 rfl 0 rfl ?_
    obtain ⟨x14, h15, hf⟩ := obind hf
    refine r_ld_R (ci := 11) (k := 47) X h15 (Nat.le_of_ble_eq_true rfl) (Nat.le_of_ble_eq_true rfl) rfl rfl q751 d_M_hear_26 ?_
    refine r_aload_n X d_M_hear_29 rfl 0 rfl ?_
    obtain ⟨x16, h17, hf⟩ := obind hf
    refine r_ld_I (ci := 11) (k := 45) X h17 (Nat.le_of_ble_eq_true rfl) (Nat.le_of_ble_eq_true rfl) (Or.inl rfl) rfl q749 d_M_hear_30 ?_
    refine r_aload_n X d_M_hear_33 rfl 0 rfl ?_
    obtain ⟨x18, h19, hf⟩ := obind hf
    refine r_ld_R (ci := 11) (k := 12) X h19 (Nat.le_of_ble_eq_true rfl) (Nat.le_of_ble_eq_true rfl) rfl rfl q716 d_M_hear_34 ?_
    refine r_iload_n X d_M_hear_37 rfl 1 rfl ?_
    obtain ⟨x20, h21, hf⟩ := obind hf
    refine r_al_I X h21 d_M_hear_38 ?_
    obtain ⟨σ22, h23, hf⟩ := obind hf
    refine r_as_I X h23 d_M_hear_39 ?_
    refine r_aload_n X d_M_hear_40 rfl 0 rfl ?_
    obtain ⟨x24, h25, hf⟩ := obind hf
    refine r_ld_R (ci := 11) (k := 48) X h25 (Nat.le_of_ble_eq_true rfl) (Nat.le_of_ble_eq_true rfl) rfl rfl q752 d_M_hear_41 ?_
    refine r_aload_n X d_M_hear_44 rfl 0 rfl ?_
    obtain ⟨x26, h27, hf⟩ := obind hf
    refine r_ld_I (ci := 11) (k := 45) X h27 (Nat.le_of_ble_eq_true rfl) (Nat.le_of_ble_eq_true rfl) (Or.inl rfl) rfl q749 d_M_hear_45 ?_
    refine r_iload_n X d_M_hear_48 rfl 2 rfl ?_
    obtain ⟨σ28, h29, hf⟩ := obind hf
    refine r_as_I X h29 d_M_hear_49 ?_
    refine r_aload_n X d_M_hear_50 rfl 0 rfl ?_
    refine r_dup X d_M_hear_51 rfl ?_
    obtain ⟨x30, h31, hf⟩ := obind hf
    refine r_ld_I (ci := 11) (k := 45) X h31 (Nat.le_of_ble_eq_true rfl) (Nat.le_of_ble_eq_true rfl) (Or.inl rfl) rfl q749 d_M_hear_52 ?_
    refine r_iconst (v := 1) X d_M_hear_55 (by decide) ?_
    refine r_iadd X d_M_hear_56 ?_
    obtain ⟨σ32, h33, hf⟩ := obind hf
    refine r_st_I (ci := 11) (k := 45) X h33 (Nat.le_of_ble_eq_true rfl) (Nat.le_of_ble_eq_true rfl) rfl rfl rfl q749 d_M_hear_57 ?_
    cases hf
    refine r_widen (kc2 := rm_M_hear.cells) (ks2 := rm_M_hear.slots) (Nat.le_of_ble_eq_true rfl) (Nat.le_of_ble_eq_true rfl) ?_
    exact r_vret X hret hlk d_M_hear_60

def f_M_drop (v0 : Option Nat) (v1 : Int32) (v2 : Int32) (σ : Hp) : Option Hp :=
  Option.bind (is_O σ v0 11) fun x2 =>
  Option.bind (f_M_hear v0 v1 v2 σ) fun σ4 =>
  Option.bind (ld_R σ4 v0 11 20) fun x5 =>
  Option.bind (as_Z σ4 2 x5 v1 0) fun σ7 =>
  Option.bind (ld_R σ7 v0 11 6) fun x9 =>
  Option.bind (ld_R σ7 v0 11 11) fun x11 =>
  Option.bind (al_I σ7 0 x11 v1) fun x13 =>
  Option.bind (as_I σ7 0 x9 x13 ((-1))) fun σ15 =>
  some σ15
set_option maxRecDepth 100000 in
theorem c_M_drop {l : Launch} {DD : DT} (v0 : Option Nat) (v1 : Int32) (v2 : Int32) {σ0 σz : Hp} (hf : f_M_drop v0 v1 v2 σ0 = some σz) : CT l DD y_M_drop prog_13_method_18_code 3 none rm_M_drop [tR v0, tI v1, tI v2] σ0 none σz := by
  refine r_met (by decide) (Nat.le_of_ble_eq_true rfl) ?_
  intro p e s m args below meth c X hret hlk hnm
  unfold f_M_drop at hf
  refine r_aload_n X d_M_drop_0 rfl 0 rfl ?_
  refine r_iload_n X d_M_drop_1 rfl 1 rfl ?_
  refine r_iload_n X d_M_drop_2 rfl 2 rfl ?_
  obtain ⟨x2, h1, hf⟩ := obind hf
  obtain ⟨σ4, h3, hf⟩ := obind hf
  refine r_callV (st := []) X [tI v1, tI v2] (ci := 11) h1 (Nat.le_of_ble_eq_true rfl) q894 q896 sl23 (c_M_hear v0 v1 v2 h3) q897 q11 y_M_hear_ok rfl ⟨Nat.le_of_ble_eq_true rfl, Nat.le_of_ble_eq_true rfl⟩ (Nat.le_of_ble_eq_true rfl) ⟨Nat.le_of_ble_eq_true rfl, Nat.le_of_ble_eq_true rfl⟩ d_M_drop_3 ?_
  refine r_aload_n X d_M_drop_6 rfl 0 rfl ?_
  obtain ⟨x5, h6, hf⟩ := obind hf
  refine r_ld_R (ci := 11) (k := 20) X h6 (Nat.le_of_ble_eq_true rfl) (Nat.le_of_ble_eq_true rfl) rfl rfl q724 d_M_drop_7 ?_
  refine r_iload_n X d_M_drop_10 rfl 1 rfl ?_
  refine r_iconst (v := 0) X d_M_drop_11 (by decide) ?_
  obtain ⟨σ7, h8, hf⟩ := obind hf
  refine r_as_Z X h8 d_M_drop_12 ?_
  refine r_aload_n X d_M_drop_13 rfl 0 rfl ?_
  obtain ⟨x9, h10, hf⟩ := obind hf
  refine r_ld_R (ci := 11) (k := 6) X h10 (Nat.le_of_ble_eq_true rfl) (Nat.le_of_ble_eq_true rfl) rfl rfl q710 d_M_drop_14 ?_
  refine r_aload_n X d_M_drop_17 rfl 0 rfl ?_
  obtain ⟨x11, h12, hf⟩ := obind hf
  refine r_ld_R (ci := 11) (k := 11) X h12 (Nat.le_of_ble_eq_true rfl) (Nat.le_of_ble_eq_true rfl) rfl rfl q715 d_M_drop_18 ?_
  refine r_iload_n X d_M_drop_21 rfl 1 rfl ?_
  obtain ⟨x13, h14, hf⟩ := obind hf
  refine r_al_I X h14 d_M_drop_22 ?_
  refine r_iconst (v := -1) X d_M_drop_23 (by decide) ?_
  obtain ⟨σ15, h16, hf⟩ := obind hf
  refine r_as_I X h16 d_M_drop_24 ?_
  cases hf
  refine r_widen (kc2 := rm_M_drop.cells) (ks2 := rm_M_drop.slots) (Nat.le_of_ble_eq_true rfl) (Nat.le_of_ble_eq_true rfl) ?_
  exact r_vret X hret hlk d_M_drop_25

def f_M_place (v0 : Option Nat) (v1 : Int32) (v2 : Int32) (σ : Hp) : Option (Int32 × Hp) :=
  Option.bind (ld_R σ v0 11 31) fun x1 =>
  Option.bind (al_I σ 0 x1 v1) fun x3 =>
  Option.bind (ld_I σ v0 11 4) fun x5 =>
  some ((8192 * v1) + ((iushr_ ((v2 + 1) * x3) 7) &&& (x5 - 1)), σ)
set_option maxRecDepth 100000 in
theorem c_M_place {l : Launch} {DD : DT} (v0 : Option Nat) (v1 : Int32) (v2 : Int32) {σ0 σz : Hp} {rz : Int32} (hf : f_M_place v0 v1 v2 σ0 = some (rz, σz)) : CT l DD y_M_place prog_13_method_8_code 3 (some .int) rm_M_place [tR v0, tI v1, tI v2] σ0 (some (tI rz)) σz := by
  refine r_met (by decide) (Nat.le_of_ble_eq_true rfl) ?_
  intro p e s m args below meth c X hret hlk hnm
  unfold f_M_place at hf
  refine r_sipush (v := 8192) X d_M_place_0 (by decide) ?_
  refine r_iload_n X d_M_place_3 rfl 1 rfl ?_
  refine r_imul X d_M_place_4 ?_
  refine r_iload_n X d_M_place_5 rfl 2 rfl ?_
  refine r_iconst (v := 1) X d_M_place_6 (by decide) ?_
  refine r_iadd X d_M_place_7 ?_
  refine r_aload_n X d_M_place_8 rfl 0 rfl ?_
  obtain ⟨x1, h2, hf⟩ := obind hf
  refine r_ld_R (ci := 11) (k := 31) X h2 (Nat.le_of_ble_eq_true rfl) (Nat.le_of_ble_eq_true rfl) rfl rfl q735 d_M_place_9 ?_
  refine r_iload_n X d_M_place_12 rfl 1 rfl ?_
  obtain ⟨x3, h4, hf⟩ := obind hf
  refine r_al_I X h4 d_M_place_13 ?_
  refine r_imul X d_M_place_14 ?_
  refine r_bipush (v := 7) X d_M_place_15 (by decide) ?_
  refine r_iushr X d_M_place_17 ?_
  refine r_aload_n X d_M_place_18 rfl 0 rfl ?_
  obtain ⟨x5, h6, hf⟩ := obind hf
  refine r_ld_I (ci := 11) (k := 4) X h6 (Nat.le_of_ble_eq_true rfl) (Nat.le_of_ble_eq_true rfl) (Or.inl rfl) rfl q708 d_M_place_19 ?_
  refine r_iconst (v := 1) X d_M_place_22 (by decide) ?_
  refine r_isub X d_M_place_23 ?_
  refine r_iand X d_M_place_24 ?_
  refine r_iadd X d_M_place_25 ?_
  cases hf
  refine r_widen (kc2 := rm_M_place.cells) (ks2 := rm_M_place.slots) (Nat.le_of_ble_eq_true rfl) (Nat.le_of_ble_eq_true rfl) ?_
  exact r_iret X hret hlk d_M_place_26

def f_M_count1_95 (n : Nat) (rec86 : Option Nat → Int32 → Int32 → Hp → Option Hp) : Nat → Option Nat → Int32 → Int32 → Int32 → Hp → Option Hp
  | 0, _, _, _, _, _ => none
  | i + 1, v0, v3, v4, v5, σ =>
    Option.bind (ld_I σ v0 11 4) fun x17 =>
    if x17 ≤ v5 then
    (
      rec86 v0 v3 (v4 + 1) σ)
    else
    (
      Option.bind (ld_R σ v0 11 30) fun x20 =>
      Option.bind (al_I σ 0 x20 ((8192 * v4) + v5)) fun x22 =>
      Option.bind (ld_R σ v0 11 30) fun x24 =>
      Option.bind (al_I σ 0 x24 ((8192 * v4) + v5)) fun x26 =>
      Option.bind (as_I σ 0 x24 ((8192 * v4) + v5) (x26 / 2)) fun σ28 =>
      f_M_count1_95 n rec86 i v0 (v3 + (x22 - x22 / 2 * 2)) v4 (v5 + 1) σ28)
set_option maxRecDepth 100000 in
theorem b_M_count1_95 {p : Program} {l : Launch} {e : Env} {s : State} {m : MethodId} {args : Array Value} {below : List Frame} {meth : Method} {c : Code} {DD : DT} {σ0 σz : Hp} (X : CX p s m args c prog_13_method_10_code 6 (dm σ0) DD y_M_count1.cls) (hret : meth.sig.returnType = none) (hlk : meth.locks = false) (hnm : meth.name = y_M_count1.name) (n : Nat) (rec86 : Option Nat → Int32 → Int32 → Hp → Option Hp) (hrec86 : ∀ (v0 : Option Nat) (v3 : Int32) (v4 : Int32) (σ : Hp), rec86 v0 v3 v4 σ = some σz → GG p l e rm_M_count1 s m args below meth c 6 (dm σ0) DD (MQ below (Post DD σ0 none σz) args s rm_M_count1.cells rm_M_count1.slots (dm σ0)) 0 0 σ 86 [(0, tR v0), (3, tI v3), (4, tI v4)] []) : ∀ (i : Nat) (v0 : Option Nat) (v3 : Int32) (v4 : Int32) (v5 : Int32) (σ : Hp) (hf : f_M_count1_95 n rec86 i v0 v3 v4 v5 σ = some σz), GG p l e rm_M_count1 s m args below meth c 6 (dm σ0) DD (MQ below (Post DD σ0 none σz) args s rm_M_count1.cells rm_M_count1.slots (dm σ0)) 0 0 σ 95 [(0, tR v0), (3, tI v3), (4, tI v4), (5, tI v5)] [] := by
  intro i
  induction i with
  | zero => intro v0 v3 v4 v5 σ hf; cases hf
  | succ i ih =>
    intro v0 v3 v4 v5 σ hf
    simp only [f_M_count1_95] at hf
    refine r_iload X d_M_count1_95 3 rfl ?_
    refine r_aload_n X d_M_count1_97 rfl 0 rfl ?_
    obtain ⟨x17, h18, hf⟩ := obind hf
    refine r_ld_I (ci := 11) (k := 4) X h18 (Nat.le_of_ble_eq_true rfl) (Nat.le_of_ble_eq_true rfl) (Or.inl rfl) rfl q708 d_M_count1_98 ?_
    refine r_icmp_ge (tgt := 147) X d_M_count1_101 (by decide) (fun hc19 => ?_) (fun hc19 => ?_)
    · have hf := (if_pos hc19).symm.trans hf
      refine r_iinc (lv' := [(0, tR v0), (3, tI v3), (4, tI (v4 + 1)), (5, tI v5)]) (j := 2) X [1, 2, 0, 3] d_M_count1_147 rfl rfl (Nat.le_of_ble_eq_true rfl) rfl ?_
      refine r_goto (tgt := 86) X d_M_count1_150 (by decide) ?_
      refine r_widen (kc2 := 0) (ks2 := 0) (Nat.le_of_ble_eq_true rfl) (Nat.le_of_ble_eq_true rfl) ?_
      refine r_sub [0, 1, 2] (lv' := [(0, tR v0), (3, tI v3), (4, tI (v4 + 1))]) rfl ?_
      exact hrec86 v0 v3 (v4 + 1) σ hf
    · have hf := (if_neg hc19).symm.trans hf
      refine r_iload_n X d_M_count1_104 rfl 1 rfl ?_
      refine r_aload_n X d_M_count1_105 rfl 0 rfl ?_
      obtain ⟨x20, h21, hf⟩ := obind hf
      refine r_ld_R (ci := 11) (k := 30) X h21 (Nat.le_of_ble_eq_true rfl) (Nat.le_of_ble_eq_true rfl) rfl rfl q734 d_M_count1_106 ?_
      refine r_sipush (v := 8192) X d_M_count1_109 (by decide) ?_
      refine r_iload X d_M_count1_112 2 rfl ?_
      refine r_imul X d_M_count1_114 ?_
      refine r_iload X d_M_count1_115 3 rfl ?_
      refine r_iadd X d_M_count1_117 ?_
      obtain ⟨x22, h23, hf⟩ := obind hf
      refine r_al_I X h23 d_M_count1_118 ?_
      refine r_iconst (v := 2) X d_M_count1_119 (by decide) ?_
      refine r_irem X d_M_count1_120 (by decide) ?_
      refine r_iadd X d_M_count1_121 ?_
      refine r_istore_n (lv' := [(0, tR v0), (3, tI (v3 + (x22 - x22 / 2 * 2))), (4, tI v4), (5, tI v5)]) X [1, 0, 2, 3] d_M_count1_122 rfl (Nat.le_of_ble_eq_true rfl) rfl ?_
      refine r_aload_n X d_M_count1_123 rfl 0 rfl ?_
      obtain ⟨x24, h25, hf⟩ := obind hf
      refine r_ld_R (ci := 11) (k := 30) X h25 (Nat.le_of_ble_eq_true rfl) (Nat.le_of_ble_eq_true rfl) rfl rfl q734 d_M_count1_124 ?_
      refine r_sipush (v := 8192) X d_M_count1_127 (by decide) ?_
      refine r_iload X d_M_count1_130 2 rfl ?_
      refine r_imul X d_M_count1_132 ?_
      refine r_iload X d_M_count1_133 3 rfl ?_
      refine r_iadd X d_M_count1_135 ?_
      refine r_dup2 X d_M_count1_136 rfl rfl ?_
      obtain ⟨x26, h27, hf⟩ := obind hf
      refine r_al_I X h27 d_M_count1_137 ?_
      refine r_iconst (v := 2) X d_M_count1_138 (by decide) ?_
      refine r_idiv X d_M_count1_139 (by decide) ?_
      obtain ⟨σ28, h29, hf⟩ := obind hf
      refine r_as_I X h29 d_M_count1_140 ?_
      refine r_iinc (lv' := [(0, tR v0), (3, tI (v3 + (x22 - x22 / 2 * 2))), (4, tI v4), (5, tI (v5 + 1))]) (j := 3) X [1, 2, 3, 0] d_M_count1_141 rfl rfl (Nat.le_of_ble_eq_true rfl) rfl ?_
      refine r_goto (tgt := 95) X d_M_count1_144 (by decide) ?_
      refine r_widen (kc2 := 0) (ks2 := 0) (Nat.le_of_ble_eq_true rfl) (Nat.le_of_ble_eq_true rfl) ?_
      refine r_sub [0, 1, 2, 3] (lv' := [(0, tR v0), (3, tI (v3 + (x22 - x22 / 2 * 2))), (4, tI v4), (5, tI (v5 + 1))]) rfl ?_
      exact ih v0 (v3 + (x22 - x22 / 2 * 2)) v4 (v5 + 1) σ28 hf

def f_M_count1_86 (n : Nat)  : Nat → Option Nat → Int32 → Int32 → Hp → Option Hp
  | 0, _, _, _, _ => none
  | i + 1, v0, v3, v4, σ =>
    if 4 ≤ v4 then
    (
      Option.bind (ld_I σ v0 11 29) fun x13 =>
      Option.bind (st_I σ v0 11 29 ((x13 - (v3 / 4)) / 2)) fun σ15 =>
      some σ15)
    else
    (
      f_M_count1_95 n (f_M_count1_86 n i) n v0 v3 v4 0 σ)
set_option maxRecDepth 100000 in
theorem b_M_count1_86 {p : Program} {l : Launch} {e : Env} {s : State} {m : MethodId} {args : Array Value} {below : List Frame} {meth : Method} {c : Code} {DD : DT} {σ0 σz : Hp} (X : CX p s m args c prog_13_method_10_code 6 (dm σ0) DD y_M_count1.cls) (hret : meth.sig.returnType = none) (hlk : meth.locks = false) (hnm : meth.name = y_M_count1.name) (n : Nat)   : ∀ (i : Nat) (v0 : Option Nat) (v3 : Int32) (v4 : Int32) (σ : Hp) (hf : f_M_count1_86 n  i v0 v3 v4 σ = some σz), GG p l e rm_M_count1 s m args below meth c 6 (dm σ0) DD (MQ below (Post DD σ0 none σz) args s rm_M_count1.cells rm_M_count1.slots (dm σ0)) 0 0 σ 86 [(0, tR v0), (3, tI v3), (4, tI v4)] [] := by
  intro i
  induction i with
  | zero => intro v0 v3 v4 σ hf; cases hf
  | succ i ih =>
    intro v0 v3 v4 σ hf
    simp only [f_M_count1_86] at hf
    refine r_iload X d_M_count1_86 2 rfl ?_
    refine r_iconst (v := 4) X d_M_count1_88 (by decide) ?_
    refine r_icmp_ge (tgt := 153) X d_M_count1_89 (by decide) (fun hc12 => ?_) (fun hc12 => ?_)
    · have hf := (if_pos hc12).symm.trans hf
      refine r_aload_n X d_M_count1_153 rfl 0 rfl ?_
      refine r_aload_n X d_M_count1_154 rfl 0 rfl ?_
      obtain ⟨x13, h14, hf⟩ := obind hf
      refine r_ld_I (ci := 11) (k := 29) X h14 (Nat.le_of_ble_eq_true rfl) (Nat.le_of_ble_eq_true rfl) (Or.inl rfl) rfl q733 d_M_count1_155 ?_
      refine r_iload_n X d_M_count1_158 rfl 1 rfl ?_
      refine r_iconst (v := 4) X d_M_count1_159 (by decide) ?_
      refine r_idiv X d_M_count1_160 (by decide) ?_
      refine r_isub X d_M_count1_161 ?_
      refine r_iconst (v := 2) X d_M_count1_162 (by decide) ?_
      refine r_idiv X d_M_count1_163 (by decide) ?_
      obtain ⟨σ15, h16, hf⟩ := obind hf
      refine r_st_I (ci := 11) (k := 29) X h16 (Nat.le_of_ble_eq_true rfl) (Nat.le_of_ble_eq_true rfl) rfl rfl rfl q733 d_M_count1_164 ?_
      cases hf
      refine r_widen (kc2 := rm_M_count1.cells) (ks2 := rm_M_count1.slots) (Nat.le_of_ble_eq_true rfl) (Nat.le_of_ble_eq_true rfl) ?_
      exact r_vret X hret hlk d_M_count1_167
    · have hf := (if_neg hc12).symm.trans hf
      refine r_iconst (v := 0) X d_M_count1_92 (by decide) ?_
      refine r_istore (lv' := [(0, tR v0), (3, tI v3), (4, tI v4), (5, tI 0)]) X [1, 2, 3, 0] d_M_count1_93 (Nat.le_of_ble_eq_true rfl) rfl ?_
      refine r_widen (kc2 := 0) (ks2 := 0) (Nat.le_of_ble_eq_true rfl) (Nat.le_of_ble_eq_true rfl) ?_
      refine r_sub [0, 1, 2, 3] (lv' := [(0, tR v0), (3, tI v3), (4, tI v4), (5, tI 0)]) rfl ?_
      exact b_M_count1_95 X hret hlk hnm n (f_M_count1_86 n i) ih n v0 v3 v4 0 σ hf

def f_M_count1_45 (n : Nat) (rec4 : Option Nat → Int32 → Int32 → Int32 → Hp → Option Hp) (v0 : Option Nat) (v1 : Int32) (v2 : Int32) (v3 : Int32) (σ : Hp) : Option Hp :=
  rec4 v0 v1 v2 (v3 + 1) σ
set_option maxRecDepth 100000 in
theorem b_M_count1_45 {p : Program} {l : Launch} {e : Env} {s : State} {m : MethodId} {args : Array Value} {below : List Frame} {meth : Method} {c : Code} {DD : DT} {σ0 σz : Hp} (X : CX p s m args c prog_13_method_10_code 6 (dm σ0) DD y_M_count1.cls) (hret : meth.sig.returnType = none) (hlk : meth.locks = false) (hnm : meth.name = y_M_count1.name) (n : Nat) (rec4 : Option Nat → Int32 → Int32 → Int32 → Hp → Option Hp) (hrec4 : ∀ (v0 : Option Nat) (v1 : Int32) (v2 : Int32) (v3 : Int32) (σ : Hp), rec4 v0 v1 v2 v3 σ = some σz → GG p l e rm_M_count1 s m args below meth c 6 (dm σ0) DD (MQ below (Post DD σ0 none σz) args s rm_M_count1.cells rm_M_count1.slots (dm σ0)) 0 0 σ 4 [(0, tR v0), (1, tI v1), (2, tI v2), (3, tI v3)] []) (v0 : Option Nat) (v1 : Int32) (v2 : Int32) (v3 : Int32) (σ : Hp) (hf : f_M_count1_45 n rec4 v0 v1 v2 v3 σ = some σz) : GG p l e rm_M_count1 s m args below meth c 6 (dm σ0) DD (MQ below (Post DD σ0 none σz) args s rm_M_count1.cells rm_M_count1.slots (dm σ0)) 0 0 σ 45 [(0, tR v0), (1, tI v1), (2, tI v2), (3, tI v3)] [] := by
  unfold f_M_count1_45 at hf
  refine r_iinc (lv' := [(0, tR v0), (1, tI v1), (2, tI v2), (3, tI (v3 + 1))]) (j := 3) X [1, 2, 3, 0] d_M_count1_45 rfl rfl (Nat.le_of_ble_eq_true rfl) rfl ?_
  refine r_goto (tgt := 4) X d_M_count1_48 (by decide) ?_
  refine r_widen (kc2 := 0) (ks2 := 0) (Nat.le_of_ble_eq_true rfl) (Nat.le_of_ble_eq_true rfl) ?_
  refine r_sub [0, 1, 2, 3] (lv' := [(0, tR v0), (1, tI v1), (2, tI v2), (3, tI (v3 + 1))]) rfl ?_
  exact hrec4 v0 v1 v2 (v3 + 1) σ hf

def f_M_count1_4 (n : Nat)  : Nat → Option Nat → Int32 → Int32 → Int32 → Hp → Option Hp
  | 0, _, _, _, _, _ => none
  | i + 1, v0, v1, v2, v3, σ =>
    if 4 ≤ v3 then
    (
      if v2 = 0 then
      (
        some σ)
      else
      (
        Option.bind (ld_I σ v0 11 29) fun x3 =>
        Option.bind (st_I σ v0 11 29 (x3 + 1)) fun σ5 =>
        Option.bind (ld_I σ5 v0 11 29) fun x7 =>
        Option.bind (ld_I σ5 v0 11 4) fun x9 =>
        if (10 * x9) ≤ x7 then
        (
          f_M_count1_86 n  n v0 0 0 σ5)
        else
        (
          some σ5)))
    else
    (
      Option.bind (ld_R σ v0 11 30) fun x30 =>
      Option.bind (is_O σ v0 11) fun x33 =>
      pb (f_M_place v0 v3 v1 σ) fun x36 σ35 =>
      Option.bind (al_I σ35 0 x30 x36) fun x37 =>
      if x37 = 15 then
      (
        f_M_count1_45 n (f_M_count1_4 n i) v0 v1 v2 v3 σ35)
      else
      (
        Option.bind (ld_R σ35 v0 11 30) fun x40 =>
        Option.bind (is_O σ35 v0 11) fun x43 =>
        pb (f_M_place v0 v3 v1 σ35) fun x46 σ45 =>
        Option.bind (al_I σ45 0 x40 x46) fun x47 =>
        Option.bind (as_I σ45 0 x40 x46 (x47 + 1)) fun σ49 =>
        f_M_count1_45 n (f_M_count1_4 n i) v0 v1 1 v3 σ49))
set_option maxRecDepth 100000 in
theorem b_M_count1_4 {p : Program} {l : Launch} {e : Env} {s : State} {m : MethodId} {args : Array Value} {below : List Frame} {meth : Method} {c : Code} {DD : DT} {σ0 σz : Hp} (X : CX p s m args c prog_13_method_10_code 6 (dm σ0) DD y_M_count1.cls) (hret : meth.sig.returnType = none) (hlk : meth.locks = false) (hnm : meth.name = y_M_count1.name) (n : Nat)   : ∀ (i : Nat) (v0 : Option Nat) (v1 : Int32) (v2 : Int32) (v3 : Int32) (σ : Hp) (hf : f_M_count1_4 n  i v0 v1 v2 v3 σ = some σz), GG p l e rm_M_count1 s m args below meth c 6 (dm σ0) DD (MQ below (Post DD σ0 none σz) args s rm_M_count1.cells rm_M_count1.slots (dm σ0)) 0 0 σ 4 [(0, tR v0), (1, tI v1), (2, tI v2), (3, tI v3)] [] := by
  intro i
  induction i with
  | zero => intro v0 v1 v2 v3 σ hf; cases hf
  | succ i ih =>
    intro v0 v1 v2 v3 σ hf
    simp only [f_M_count1_4] at hf
    refine r_iload_n X d_M_count1_4 rfl 3 rfl ?_
    refine r_iconst (v := 4) X d_M_count1_5 (by decide) ?_
    refine r_icmp_ge (tgt := 51) X d_M_count1_6 (by decide) (fun hc1 => ?_) (fun hc1 => ?_)
    · have hf := (if_pos hc1).symm.trans hf
      refine r_iload_n X d_M_count1_51 rfl 2 rfl ?_
      refine r_if_ne (tgt := 56) X d_M_count1_52 (by decide) (fun hc2 => ?_) (fun hc2 => ?_)
      · have hf := (if_neg hc2).symm.trans hf
        refine r_aload_n X d_M_count1_56 rfl 0 rfl ?_
        refine r_dup X d_M_count1_57 rfl ?_
        obtain ⟨x3, h4, hf⟩ := obind hf
        refine r_ld_I (ci := 11) (k := 29) X h4 (Nat.le_of_ble_eq_true rfl) (Nat.le_of_ble_eq_true rfl) (Or.inl rfl) rfl q733 d_M_count1_58 ?_
        refine r_iconst (v := 1) X d_M_count1_61 (by decide) ?_
        refine r_iadd X d_M_count1_62 ?_
        obtain ⟨σ5, h6, hf⟩ := obind hf
        refine r_st_I (ci := 11) (k := 29) X h6 (Nat.le_of_ble_eq_true rfl) (Nat.le_of_ble_eq_true rfl) rfl rfl rfl q733 d_M_count1_63 ?_
        refine r_aload_n X d_M_count1_66 rfl 0 rfl ?_
        obtain ⟨x7, h8, hf⟩ := obind hf
        refine r_ld_I (ci := 11) (k := 29) X h8 (Nat.le_of_ble_eq_true rfl) (Nat.le_of_ble_eq_true rfl) (Or.inl rfl) rfl q733 d_M_count1_67 ?_
        refine r_bipush (v := 10) X d_M_count1_70 (by decide) ?_
        refine r_aload_n X d_M_count1_72 rfl 0 rfl ?_
        obtain ⟨x9, h10, hf⟩ := obind hf
        refine r_ld_I (ci := 11) (k := 4) X h10 (Nat.le_of_ble_eq_true rfl) (Nat.le_of_ble_eq_true rfl) (Or.inl rfl) rfl q708 d_M_count1_73 ?_
        refine r_imul X d_M_count1_76 ?_
        refine r_icmp_ge (tgt := 81) X d_M_count1_77 (by decide) (fun hc11 => ?_) (fun hc11 => ?_)
        · have hf := (if_pos hc11).symm.trans hf
          refine r_iconst (v := 0) X d_M_count1_81 (by decide) ?_
          refine r_istore_n (lv' := [(0, tR v0), (3, tI 0)]) X [1, 0] d_M_count1_82 rfl (Nat.le_of_ble_eq_true rfl) rfl ?_
          refine r_iconst (v := 0) X d_M_count1_83 (by decide) ?_
          refine r_istore (lv' := [(0, tR v0), (3, tI 0), (4, tI 0)]) X [1, 2, 0] d_M_count1_84 (Nat.le_of_ble_eq_true rfl) rfl ?_
          refine r_widen (kc2 := 0) (ks2 := 0) (Nat.le_of_ble_eq_true rfl) (Nat.le_of_ble_eq_true rfl) ?_
          refine r_sub [0, 1, 2] (lv' := [(0, tR v0), (3, tI 0), (4, tI 0)]) rfl ?_
          exact b_M_count1_86 X hret hlk hnm n   n v0 0 0 σ5 hf
        · have hf := (if_neg hc11).symm.trans hf
          cases hf
          refine r_widen (kc2 := rm_M_count1.cells) (ks2 := rm_M_count1.slots) (Nat.le_of_ble_eq_true rfl) (Nat.le_of_ble_eq_true rfl) ?_
          exact r_vret X hret hlk d_M_count1_80
      · have hf := (if_pos hc2).symm.trans hf
        cases hf
        refine r_widen (kc2 := rm_M_count1.cells) (ks2 := rm_M_count1.slots) (Nat.le_of_ble_eq_true rfl) (Nat.le_of_ble_eq_true rfl) ?_
        exact r_vret X hret hlk d_M_count1_55
    · have hf := (if_neg hc1).symm.trans hf
      refine r_aload_n X d_M_count1_9 rfl 0 rfl ?_
      obtain ⟨x30, h31, hf⟩ := obind hf
      refine r_ld_R (ci := 11) (k := 30) X h31 (Nat.le_of_ble_eq_true rfl) (Nat.le_of_ble_eq_true rfl) rfl rfl q734 d_M_count1_10 ?_
      refine r_aload_n X d_M_count1_13 rfl 0 rfl ?_
      refine r_iload_n X d_M_count1_14 rfl 3 rfl ?_
      refine r_iload_n X d_M_count1_15 rfl 1 rfl ?_
      obtain ⟨x33, h32, hf⟩ := obind hf
      obtain ⟨x36, σ35, h34, hf⟩ := pbind hf
      refine r_callV (st := [tR x30]) X [tI v3, tI v1] (ci := 11) h32 (Nat.le_of_ble_eq_true rfl) q918 q920 sl29 (c_M_place v0 v3 v1 h34) q921 q11 y_M_place_ok rfl ⟨Nat.le_of_ble_eq_true rfl, Nat.le_of_ble_eq_true rfl⟩ (Nat.le_of_ble_eq_true rfl) ⟨Nat.le_of_ble_eq_true rfl, Nat.le_of_ble_eq_true rfl⟩ d_M_count1_16 ?_
      obtain ⟨x37, h38, hf⟩ := obind hf
      refine r_al_I X h38 d_M_count1_19 ?_
      refine r_bipush (v := 15) X d_M_count1_20 (by decide) ?_
      refine r_icmp_ne (tgt := 28) X d_M_count1_22 (by decide) (fun hc39 => ?_) (fun hc39 => ?_)
      · have hf := (if_neg hc39).symm.trans hf
        refine r_aload_n X d_M_count1_28 rfl 0 rfl ?_
        obtain ⟨x40, h41, hf⟩ := obind hf
        refine r_ld_R (ci := 11) (k := 30) X h41 (Nat.le_of_ble_eq_true rfl) (Nat.le_of_ble_eq_true rfl) rfl rfl q734 d_M_count1_29 ?_
        refine r_aload_n X d_M_count1_32 rfl 0 rfl ?_
        refine r_iload_n X d_M_count1_33 rfl 3 rfl ?_
        refine r_iload_n X d_M_count1_34 rfl 1 rfl ?_
        obtain ⟨x43, h42, hf⟩ := obind hf
        obtain ⟨x46, σ45, h44, hf⟩ := pbind hf
        refine r_callV (st := [tR x40]) X [tI v3, tI v1] (ci := 11) h42 (Nat.le_of_ble_eq_true rfl) q918 q920 sl29 (c_M_place v0 v3 v1 h44) q921 q11 y_M_place_ok rfl ⟨Nat.le_of_ble_eq_true rfl, Nat.le_of_ble_eq_true rfl⟩ (Nat.le_of_ble_eq_true rfl) ⟨Nat.le_of_ble_eq_true rfl, Nat.le_of_ble_eq_true rfl⟩ d_M_count1_35 ?_
        refine r_dup2 X d_M_count1_38 rfl rfl ?_
        obtain ⟨x47, h48, hf⟩ := obind hf
        refine r_al_I X h48 d_M_count1_39 ?_
        refine r_iconst (v := 1) X d_M_count1_40 (by decide) ?_
        refine r_iadd X d_M_count1_41 ?_
        obtain ⟨σ49, h50, hf⟩ := obind hf
        refine r_as_I X h50 d_M_count1_42 ?_
        refine r_iconst (v := 1) X d_M_count1_43 (by decide) ?_
        refine r_istore_n (lv' := [(0, tR v0), (1, tI v1), (2, tI 1), (3, tI v3)]) X [1, 2, 0, 3] d_M_count1_44 rfl (Nat.le_of_ble_eq_true rfl) rfl ?_
        refine r_widen (kc2 := 0) (ks2 := 0) (Nat.le_of_ble_eq_true rfl) (Nat.le_of_ble_eq_true rfl) ?_
        refine r_sub [0, 1, 2, 3] (lv' := [(0, tR v0), (1, tI v1), (2, tI 1), (3, tI v3)]) rfl ?_
        exact b_M_count1_45 X hret hlk hnm n (f_M_count1_4 n i) ih v0 v1 1 v3 σ49 hf
      · have hf := (if_pos hc39).symm.trans hf
        refine r_goto (tgt := 45) X d_M_count1_25 (by decide) ?_
        refine r_widen (kc2 := 0) (ks2 := 0) (Nat.le_of_ble_eq_true rfl) (Nat.le_of_ble_eq_true rfl) ?_
        refine r_sub [0, 1, 2, 3] (lv' := [(0, tR v0), (1, tI v1), (2, tI v2), (3, tI v3)]) rfl ?_
        exact b_M_count1_45 X hret hlk hnm n (f_M_count1_4 n i) ih v0 v1 v2 v3 σ35 hf

def f_M_count1 (n : Nat) (v0 : Option Nat) (v1 : Int32) (σ : Hp) : Option Hp :=
  f_M_count1_4 n  n v0 v1 0 0 σ
set_option maxRecDepth 100000 in
theorem c_M_count1 {l : Launch} {DD : DT} (n : Nat) (v0 : Option Nat) (v1 : Int32) {σ0 σz : Hp} (hf : f_M_count1 n v0 v1 σ0 = some σz) : CT l DD y_M_count1 prog_13_method_10_code 6 none rm_M_count1 [tR v0, tI v1] σ0 none σz := by
  refine r_met (by decide) (Nat.le_of_ble_eq_true rfl) ?_
  intro p e s m args below meth c X hret hlk hnm
  unfold f_M_count1 at hf
  refine r_iconst (v := 0) X d_M_count1_0 (by decide) ?_
  refine r_istore_n (lv' := [(0, tR v0), (1, tI v1), (2, tI 0)]) X [1, 2, 0] d_M_count1_1 rfl (Nat.le_of_ble_eq_true rfl) rfl ?_
  refine r_iconst (v := 0) X d_M_count1_2 (by decide) ?_
  refine r_istore_n (lv' := [(0, tR v0), (1, tI v1), (2, tI 0), (3, tI 0)]) X [1, 2, 3, 0] d_M_count1_3 rfl (Nat.le_of_ble_eq_true rfl) rfl ?_
  refine r_widen (kc2 := 0) (ks2 := 0) (Nat.le_of_ble_eq_true rfl) (Nat.le_of_ble_eq_true rfl) ?_
  refine r_sub [0, 1, 2, 3] (lv' := [(0, tR v0), (1, tI v1), (2, tI 0), (3, tI 0)]) rfl ?_
  exact b_M_count1_4 X hret hlk hnm n   n v0 v1 0 0 σ0 hf

def f_M_latest (v0 : Option Nat) (v1 : Int32) (v2 : Int32) (σ : Hp) : Option Hp :=
  Option.bind (ld_R σ v0 11 15) fun x1 =>
  Option.bind (as_I σ 0 x1 v1 v2) fun σ3 =>
  Option.bind (ld_L σ3 v0 11 22) fun x5 =>
  Option.bind (st_L σ3 v0 11 22 (x5 + 1)) fun σ7 =>
  Option.bind (ld_R σ7 v0 11 19) fun x9 =>
  Option.bind (ld_L σ7 v0 11 22) fun x11 =>
  Option.bind (as_L σ7 1 x9 v1 x11) fun σ13 =>
  some σ13
set_option maxRecDepth 100000 in
theorem c_M_latest {l : Launch} {DD : DT} (v0 : Option Nat) (v1 : Int32) (v2 : Int32) {σ0 σz : Hp} (hf : f_M_latest v0 v1 v2 σ0 = some σz) : CT l DD y_M_latest prog_13_method_14_code 3 none rm_M_latest [tR v0, tI v1, tI v2] σ0 none σz := by
  refine r_met (by decide) (Nat.le_of_ble_eq_true rfl) ?_
  intro p e s m args below meth c X hret hlk hnm
  unfold f_M_latest at hf
  refine r_aload_n X d_M_latest_0 rfl 0 rfl ?_
  obtain ⟨x1, h2, hf⟩ := obind hf
  refine r_ld_R (ci := 11) (k := 15) X h2 (Nat.le_of_ble_eq_true rfl) (Nat.le_of_ble_eq_true rfl) rfl rfl q719 d_M_latest_1 ?_
  refine r_iload_n X d_M_latest_4 rfl 1 rfl ?_
  refine r_iload_n X d_M_latest_5 rfl 2 rfl ?_
  obtain ⟨σ3, h4, hf⟩ := obind hf
  refine r_as_I X h4 d_M_latest_6 ?_
  refine r_aload_n X d_M_latest_7 rfl 0 rfl ?_
  refine r_dup X d_M_latest_8 rfl ?_
  obtain ⟨x5, h6, hf⟩ := obind hf
  refine r_ld_L (ci := 11) (k := 22) X h6 (Nat.le_of_ble_eq_true rfl) (Nat.le_of_ble_eq_true rfl) rfl rfl q726 d_M_latest_9 ?_
  refine r_lconst (v := 1) X d_M_latest_12 (by decide) ?_
  refine r_ladd X d_M_latest_13 ?_
  obtain ⟨σ7, h8, hf⟩ := obind hf
  refine r_st_L (ci := 11) (k := 22) X h8 (Nat.le_of_ble_eq_true rfl) (Nat.le_of_ble_eq_true rfl) rfl rfl rfl q726 d_M_latest_14 ?_
  refine r_aload_n X d_M_latest_17 rfl 0 rfl ?_
  obtain ⟨x9, h10, hf⟩ := obind hf
  refine r_ld_R (ci := 11) (k := 19) X h10 (Nat.le_of_ble_eq_true rfl) (Nat.le_of_ble_eq_true rfl) rfl rfl q723 d_M_latest_18 ?_
  refine r_iload_n X d_M_latest_21 rfl 1 rfl ?_
  refine r_aload_n X d_M_latest_22 rfl 0 rfl ?_
  obtain ⟨x11, h12, hf⟩ := obind hf
  refine r_ld_L (ci := 11) (k := 22) X h12 (Nat.le_of_ble_eq_true rfl) (Nat.le_of_ble_eq_true rfl) rfl rfl q726 d_M_latest_23 ?_
  obtain ⟨σ13, h14, hf⟩ := obind hf
  refine r_as_L X h14 d_M_latest_26 ?_
  cases hf
  refine r_widen (kc2 := rm_M_latest.cells) (ks2 := rm_M_latest.slots) (Nat.le_of_ble_eq_true rfl) (Nat.le_of_ble_eq_true rfl) ?_
  exact r_vret X hret hlk d_M_latest_27

def f_M_weightOf_33 (n : Nat) (rec4 : Option Nat → Int32 → Int32 → Int32 → Hp → Option (Int32 × Hp)) (v0 : Option Nat) (v1 : Int32) (v3 : Int32) (w0 : Int32) (w1 : Int32) (σ : Hp) : Option (Int32 × Hp) :=
  rec4 v0 v1 (w1 + w0) (v3 + 1) σ
set_option maxRecDepth 100000 in
theorem b_M_weightOf_33 {p : Program} {l : Launch} {e : Env} {s : State} {m : MethodId} {args : Array Value} {below : List Frame} {meth : Method} {c : Code} {DD : DT} {σ0 σz : Hp} {rz : Int32} (X : CX p s m args c prog_13_method_11_code 4 (dm σ0) DD y_M_weightOf.cls) (hret : meth.sig.returnType = some .int) (hlk : meth.locks = false) (hnm : meth.name = y_M_weightOf.name) (n : Nat) (rec4 : Option Nat → Int32 → Int32 → Int32 → Hp → Option (Int32 × Hp)) (hrec4 : ∀ (v0 : Option Nat) (v1 : Int32) (v2 : Int32) (v3 : Int32) (σ : Hp), rec4 v0 v1 v2 v3 σ = some (rz, σz) → GG p l e rm_M_weightOf s m args below meth c 4 (dm σ0) DD (MQ below (Post DD σ0 (some (tI rz)) σz) args s rm_M_weightOf.cells rm_M_weightOf.slots (dm σ0)) 0 0 σ 4 [(0, tR v0), (1, tI v1), (2, tI v2), (3, tI v3)] []) (v0 : Option Nat) (v1 : Int32) (v3 : Int32) (w0 : Int32) (w1 : Int32) (σ : Hp) (hf : f_M_weightOf_33 n rec4 v0 v1 v3 w0 w1 σ = some (rz, σz)) : GG p l e rm_M_weightOf s m args below meth c 4 (dm σ0) DD (MQ below (Post DD σ0 (some (tI rz)) σz) args s rm_M_weightOf.cells rm_M_weightOf.slots (dm σ0)) 0 0 σ 33 [(0, tR v0), (1, tI v1), (3, tI v3)] [tI w0, tI w1] := by
  unfold f_M_weightOf_33 at hf
  refine r_iadd X d_M_weightOf_33 ?_
  refine r_istore_n (lv' := [(0, tR v0), (1, tI v1), (2, tI (w1 + w0)), (3, tI v3)]) X [1, 2, 0, 3] d_M_weightOf_34 rfl (Nat.le_of_ble_eq_true rfl) rfl ?_
  refine r_iinc (lv' := [(0, tR v0), (1, tI v1), (2, tI (w1 + w0)), (3, tI (v3 + 1))]) (j := 3) X [1, 2, 3, 0] d_M_weightOf_35 rfl rfl (Nat.le_of_ble_eq_true rfl) rfl ?_
  refine r_goto (tgt := 4) X d_M_weightOf_38 (by decide) ?_
  refine r_widen (kc2 := 0) (ks2 := 0) (Nat.le_of_ble_eq_true rfl) (Nat.le_of_ble_eq_true rfl) ?_
  refine r_sub [0, 1, 2, 3] (lv' := [(0, tR v0), (1, tI v1), (2, tI (w1 + w0)), (3, tI (v3 + 1))]) rfl ?_
  exact hrec4 v0 v1 (w1 + w0) (v3 + 1) σ hf

def f_M_weightOf_4 (n : Nat)  : Nat → Option Nat → Int32 → Int32 → Int32 → Hp → Option (Int32 × Hp)
  | 0, _, _, _, _, _ => none
  | i + 1, v0, v1, v2, v3, σ =>
    Option.bind (ld_I σ v0 11 10) fun x1 =>
    if x1 ≤ v3 then
    (
      some (v2, σ))
    else
    (
      Option.bind (ld_R σ v0 11 15) fun x4 =>
      Option.bind (al_I σ 0 x4 v3) fun x6 =>
      if x6 = v1 then
      (
        Option.bind (ld_R σ v0 11 13) fun x9 =>
        Option.bind (al_I σ 0 x9 v3) fun x11 =>
        f_M_weightOf_33 n (f_M_weightOf_4 n i) v0 v1 v3 x11 v2 σ)
      else
      (
        f_M_weightOf_33 n (f_M_weightOf_4 n i) v0 v1 v3 0 v2 σ))
set_option maxRecDepth 100000 in
theorem b_M_weightOf_4 {p : Program} {l : Launch} {e : Env} {s : State} {m : MethodId} {args : Array Value} {below : List Frame} {meth : Method} {c : Code} {DD : DT} {σ0 σz : Hp} {rz : Int32} (X : CX p s m args c prog_13_method_11_code 4 (dm σ0) DD y_M_weightOf.cls) (hret : meth.sig.returnType = some .int) (hlk : meth.locks = false) (hnm : meth.name = y_M_weightOf.name) (n : Nat)   : ∀ (i : Nat) (v0 : Option Nat) (v1 : Int32) (v2 : Int32) (v3 : Int32) (σ : Hp) (hf : f_M_weightOf_4 n  i v0 v1 v2 v3 σ = some (rz, σz)), GG p l e rm_M_weightOf s m args below meth c 4 (dm σ0) DD (MQ below (Post DD σ0 (some (tI rz)) σz) args s rm_M_weightOf.cells rm_M_weightOf.slots (dm σ0)) 0 0 σ 4 [(0, tR v0), (1, tI v1), (2, tI v2), (3, tI v3)] [] := by
  intro i
  induction i with
  | zero => intro v0 v1 v2 v3 σ hf; cases hf
  | succ i ih =>
    intro v0 v1 v2 v3 σ hf
    simp only [f_M_weightOf_4] at hf
    refine r_iload_n X d_M_weightOf_4 rfl 3 rfl ?_
    refine r_aload_n X d_M_weightOf_5 rfl 0 rfl ?_
    obtain ⟨x1, h2, hf⟩ := obind hf
    refine r_ld_I (ci := 11) (k := 10) X h2 (Nat.le_of_ble_eq_true rfl) (Nat.le_of_ble_eq_true rfl) (Or.inl rfl) rfl q714 d_M_weightOf_6 ?_
    refine r_icmp_ge (tgt := 41) X d_M_weightOf_9 (by decide) (fun hc3 => ?_) (fun hc3 => ?_)
    · have hf := (if_pos hc3).symm.trans hf
      refine r_iload_n X d_M_weightOf_41 rfl 2 rfl ?_
      cases hf
      refine r_widen (kc2 := rm_M_weightOf.cells) (ks2 := rm_M_weightOf.slots) (Nat.le_of_ble_eq_true rfl) (Nat.le_of_ble_eq_true rfl) ?_
      exact r_iret X hret hlk d_M_weightOf_42
    · have hf := (if_neg hc3).symm.trans hf
      refine r_iload_n X d_M_weightOf_12 rfl 2 rfl ?_
      refine r_aload_n X d_M_weightOf_13 rfl 0 rfl ?_
      obtain ⟨x4, h5, hf⟩ := obind hf
      refine r_ld_R (ci := 11) (k := 15) X h5 (Nat.le_of_ble_eq_true rfl) (Nat.le_of_ble_eq_true rfl) rfl rfl q719 d_M_weightOf_14 ?_
      refine r_iload_n X d_M_weightOf_17 rfl 3 rfl ?_
      obtain ⟨x6, h7, hf⟩ := obind hf
      refine r_al_I X h7 d_M_weightOf_18 ?_
      refine r_iload_n X d_M_weightOf_19 rfl 1 rfl ?_
      refine r_icmp_ne (tgt := 32) X d_M_weightOf_20 (by decide) (fun hc8 => ?_) (fun hc8 => ?_)
      · have hf := (if_neg hc8).symm.trans hf
        refine r_iconst (v := 0) X d_M_weightOf_32 (by decide) ?_
        refine r_widen (kc2 := 0) (ks2 := 0) (Nat.le_of_ble_eq_true rfl) (Nat.le_of_ble_eq_true rfl) ?_
        refine r_sub [0, 1, 3] (lv' := [(0, tR v0), (1, tI v1), (3, tI v3)]) rfl ?_
        exact b_M_weightOf_33 X hret hlk hnm n (f_M_weightOf_4 n i) ih v0 v1 v3 0 v2 σ hf
      · have hf := (if_pos hc8).symm.trans hf
        refine r_aload_n X d_M_weightOf_23 rfl 0 rfl ?_
        obtain ⟨x9, h10, hf⟩ := obind hf
        refine r_ld_R (ci := 11) (k := 13) X h10 (Nat.le_of_ble_eq_true rfl) (Nat.le_of_ble_eq_true rfl) rfl rfl q717 d_M_weightOf_24 ?_
        refine r_iload_n X d_M_weightOf_27 rfl 3 rfl ?_
        obtain ⟨x11, h12, hf⟩ := obind hf
        refine r_al_I X h12 d_M_weightOf_28 ?_
        refine r_goto (tgt := 33) X d_M_weightOf_29 (by decide) ?_
        refine r_widen (kc2 := 0) (ks2 := 0) (Nat.le_of_ble_eq_true rfl) (Nat.le_of_ble_eq_true rfl) ?_
        refine r_sub [0, 1, 3] (lv' := [(0, tR v0), (1, tI v1), (3, tI v3)]) rfl ?_
        exact b_M_weightOf_33 X hret hlk hnm n (f_M_weightOf_4 n i) ih v0 v1 v3 x11 v2 σ hf

def f_M_weightOf (n : Nat) (v0 : Option Nat) (v1 : Int32) (σ : Hp) : Option (Int32 × Hp) :=
  f_M_weightOf_4 n  n v0 v1 0 0 σ
set_option maxRecDepth 100000 in
theorem c_M_weightOf {l : Launch} {DD : DT} (n : Nat) (v0 : Option Nat) (v1 : Int32) {σ0 σz : Hp} {rz : Int32} (hf : f_M_weightOf n v0 v1 σ0 = some (rz, σz)) : CT l DD y_M_weightOf prog_13_method_11_code 4 (some .int) rm_M_weightOf [tR v0, tI v1] σ0 (some (tI rz)) σz := by
  refine r_met (by decide) (Nat.le_of_ble_eq_true rfl) ?_
  intro p e s m args below meth c X hret hlk hnm
  unfold f_M_weightOf at hf
  refine r_iconst (v := 0) X d_M_weightOf_0 (by decide) ?_
  refine r_istore_n (lv' := [(0, tR v0), (1, tI v1), (2, tI 0)]) X [1, 2, 0] d_M_weightOf_1 rfl (Nat.le_of_ble_eq_true rfl) rfl ?_
  refine r_iconst (v := 0) X d_M_weightOf_2 (by decide) ?_
  refine r_istore_n (lv' := [(0, tR v0), (1, tI v1), (2, tI 0), (3, tI 0)]) X [1, 2, 3, 0] d_M_weightOf_3 rfl (Nat.le_of_ble_eq_true rfl) rfl ?_
  refine r_widen (kc2 := 0) (ks2 := 0) (Nat.le_of_ble_eq_true rfl) (Nat.le_of_ble_eq_true rfl) ?_
  refine r_sub [0, 1, 2, 3] (lv' := [(0, tR v0), (1, tI v1), (2, tI 0), (3, tI 0)]) rfl ?_
  exact b_M_weightOf_4 X hret hlk hnm n   n v0 v1 0 0 σ0 hf

def f_M_earliest_45 (n : Nat) (rec4 : Option Nat → Int32 → Int32 → Int32 → Hp → Option (Int32 × Hp)) (v0 : Option Nat) (v1 : Int32) (v2 : Int32) (v3 : Int32) (σ : Hp) : Option (Int32 × Hp) :=
  rec4 v0 v1 v2 (v3 + 1) σ
set_option maxRecDepth 100000 in
theorem b_M_earliest_45 {p : Program} {l : Launch} {e : Env} {s : State} {m : MethodId} {args : Array Value} {below : List Frame} {meth : Method} {c : Code} {DD : DT} {σ0 σz : Hp} {rz : Int32} (X : CX p s m args c prog_13_method_13_code 4 (dm σ0) DD y_M_earliest.cls) (hret : meth.sig.returnType = some .int) (hlk : meth.locks = false) (hnm : meth.name = y_M_earliest.name) (n : Nat) (rec4 : Option Nat → Int32 → Int32 → Int32 → Hp → Option (Int32 × Hp)) (hrec4 : ∀ (v0 : Option Nat) (v1 : Int32) (v2 : Int32) (v3 : Int32) (σ : Hp), rec4 v0 v1 v2 v3 σ = some (rz, σz) → GG p l e rm_M_earliest s m args below meth c 4 (dm σ0) DD (MQ below (Post DD σ0 (some (tI rz)) σz) args s rm_M_earliest.cells rm_M_earliest.slots (dm σ0)) 0 0 σ 4 [(0, tR v0), (1, tI v1), (2, tI v2), (3, tI v3)] []) (v0 : Option Nat) (v1 : Int32) (v2 : Int32) (v3 : Int32) (σ : Hp) (hf : f_M_earliest_45 n rec4 v0 v1 v2 v3 σ = some (rz, σz)) : GG p l e rm_M_earliest s m args below meth c 4 (dm σ0) DD (MQ below (Post DD σ0 (some (tI rz)) σz) args s rm_M_earliest.cells rm_M_earliest.slots (dm σ0)) 0 0 σ 45 [(0, tR v0), (1, tI v1), (2, tI v2), (3, tI v3)] [] := by
  unfold f_M_earliest_45 at hf
  refine r_iinc (lv' := [(0, tR v0), (1, tI v1), (2, tI v2), (3, tI (v3 + 1))]) (j := 3) X [1, 2, 3, 0] d_M_earliest_45 rfl rfl (Nat.le_of_ble_eq_true rfl) rfl ?_
  refine r_goto (tgt := 4) X d_M_earliest_48 (by decide) ?_
  refine r_widen (kc2 := 0) (ks2 := 0) (Nat.le_of_ble_eq_true rfl) (Nat.le_of_ble_eq_true rfl) ?_
  refine r_sub [0, 1, 2, 3] (lv' := [(0, tR v0), (1, tI v1), (2, tI v2), (3, tI (v3 + 1))]) rfl ?_
  exact hrec4 v0 v1 v2 (v3 + 1) σ hf

def f_M_earliest_43 (n : Nat) (rec4 : Option Nat → Int32 → Int32 → Int32 → Hp → Option (Int32 × Hp)) (v0 : Option Nat) (v1 : Int32) (v3 : Int32) (σ : Hp) : Option (Int32 × Hp) :=
  f_M_earliest_45 n rec4 v0 v1 v3 v3 σ
set_option maxRecDepth 100000 in
theorem b_M_earliest_43 {p : Program} {l : Launch} {e : Env} {s : State} {m : MethodId} {args : Array Value} {below : List Frame} {meth : Method} {c : Code} {DD : DT} {σ0 σz : Hp} {rz : Int32} (X : CX p s m args c prog_13_method_13_code 4 (dm σ0) DD y_M_earliest.cls) (hret : meth.sig.returnType = some .int) (hlk : meth.locks = false) (hnm : meth.name = y_M_earliest.name) (n : Nat) (rec4 : Option Nat → Int32 → Int32 → Int32 → Hp → Option (Int32 × Hp)) (hrec4 : ∀ (v0 : Option Nat) (v1 : Int32) (v2 : Int32) (v3 : Int32) (σ : Hp), rec4 v0 v1 v2 v3 σ = some (rz, σz) → GG p l e rm_M_earliest s m args below meth c 4 (dm σ0) DD (MQ below (Post DD σ0 (some (tI rz)) σz) args s rm_M_earliest.cells rm_M_earliest.slots (dm σ0)) 0 0 σ 4 [(0, tR v0), (1, tI v1), (2, tI v2), (3, tI v3)] []) (v0 : Option Nat) (v1 : Int32) (v3 : Int32) (σ : Hp) (hf : f_M_earliest_43 n rec4 v0 v1 v3 σ = some (rz, σz)) : GG p l e rm_M_earliest s m args below meth c 4 (dm σ0) DD (MQ below (Post DD σ0 (some (tI rz)) σz) args s rm_M_earliest.cells rm_M_earliest.slots (dm σ0)) 0 0 σ 43 [(0, tR v0), (1, tI v1), (3, tI v3)] [] := by
  unfold f_M_earliest_43 at hf
  refine r_iload_n X d_M_earliest_43 rfl 2 rfl ?_
  refine r_istore_n (lv' := [(0, tR v0), (1, tI v1), (2, tI v3), (3, tI v3)]) X [1, 2, 0, 3] d_M_earliest_44 rfl (Nat.le_of_ble_eq_true rfl) rfl ?_
  refine r_widen (kc2 := 0) (ks2 := 0) (Nat.le_of_ble_eq_true rfl) (Nat.le_of_ble_eq_true rfl) ?_
  refine r_sub [0, 1, 2, 3] (lv' := [(0, tR v0), (1, tI v1), (2, tI v3), (3, tI v3)]) rfl ?_
  exact b_M_earliest_45 X hret hlk hnm n rec4 hrec4 v0 v1 v3 v3 σ hf

def f_M_earliest_4 (n : Nat)  : Nat → Option Nat → Int32 → Int32 → Int32 → Hp → Option (Int32 × Hp)
  | 0, _, _, _, _, _ => none
  | i + 1, v0, v1, v2, v3, σ =>
    Option.bind (ld_I σ v0 11 10) fun x1 =>
    if x1 ≤ v3 then
    (
      some (v2, σ))
    else
    (
      Option.bind (ld_R σ v0 11 15) fun x4 =>
      Option.bind (al_I σ 0 x4 v3) fun x6 =>
      if x6 = v1 then
      (
        if v2 = ((-1)) then
        (
          f_M_earliest_43 n (f_M_earliest_4 n i) v0 v1 v3 σ)
        else
        (
          Option.bind (ld_R σ v0 11 19) fun x10 =>
          Option.bind (al_L σ 1 x10 v3) fun x12 =>
          Option.bind (ld_R σ v0 11 19) fun x14 =>
          Option.bind (al_L σ 1 x14 v2) fun x16 =>
          if 0 ≤ (lg_cmp x12 x16) then
          (
            f_M_earliest_45 n (f_M_earliest_4 n i) v0 v1 v2 v3 σ)
          else
          (
            f_M_earliest_43 n (f_M_earliest_4 n i) v0 v1 v3 σ)))
      else
      (
        f_M_earliest_45 n (f_M_earliest_4 n i) v0 v1 v2 v3 σ))
set_option maxRecDepth 100000 in
theorem b_M_earliest_4 {p : Program} {l : Launch} {e : Env} {s : State} {m : MethodId} {args : Array Value} {below : List Frame} {meth : Method} {c : Code} {DD : DT} {σ0 σz : Hp} {rz : Int32} (X : CX p s m args c prog_13_method_13_code 4 (dm σ0) DD y_M_earliest.cls) (hret : meth.sig.returnType = some .int) (hlk : meth.locks = false) (hnm : meth.name = y_M_earliest.name) (n : Nat)   : ∀ (i : Nat) (v0 : Option Nat) (v1 : Int32) (v2 : Int32) (v3 : Int32) (σ : Hp) (hf : f_M_earliest_4 n  i v0 v1 v2 v3 σ = some (rz, σz)), GG p l e rm_M_earliest s m args below meth c 4 (dm σ0) DD (MQ below (Post DD σ0 (some (tI rz)) σz) args s rm_M_earliest.cells rm_M_earliest.slots (dm σ0)) 0 0 σ 4 [(0, tR v0), (1, tI v1), (2, tI v2), (3, tI v3)] [] := by
  intro i
  induction i with
  | zero => intro v0 v1 v2 v3 σ hf; cases hf
  | succ i ih =>
    intro v0 v1 v2 v3 σ hf
    simp only [f_M_earliest_4] at hf
    refine r_iload_n X d_M_earliest_4 rfl 3 rfl ?_
    refine r_aload_n X d_M_earliest_5 rfl 0 rfl ?_
    obtain ⟨x1, h2, hf⟩ := obind hf
    refine r_ld_I (ci := 11) (k := 10) X h2 (Nat.le_of_ble_eq_true rfl) (Nat.le_of_ble_eq_true rfl) (Or.inl rfl) rfl q714 d_M_earliest_6 ?_
    refine r_icmp_ge (tgt := 51) X d_M_earliest_9 (by decide) (fun hc3 => ?_) (fun hc3 => ?_)
    · have hf := (if_pos hc3).symm.trans hf
      refine r_iload_n X d_M_earliest_51 rfl 2 rfl ?_
      cases hf
      refine r_widen (kc2 := rm_M_earliest.cells) (ks2 := rm_M_earliest.slots) (Nat.le_of_ble_eq_true rfl) (Nat.le_of_ble_eq_true rfl) ?_
      exact r_iret X hret hlk d_M_earliest_52
    · have hf := (if_neg hc3).symm.trans hf
      refine r_aload_n X d_M_earliest_12 rfl 0 rfl ?_
      obtain ⟨x4, h5, hf⟩ := obind hf
      refine r_ld_R (ci := 11) (k := 15) X h5 (Nat.le_of_ble_eq_true rfl) (Nat.le_of_ble_eq_true rfl) rfl rfl q719 d_M_earliest_13 ?_
      refine r_iload_n X d_M_earliest_16 rfl 3 rfl ?_
      obtain ⟨x6, h7, hf⟩ := obind hf
      refine r_al_I X h7 d_M_earliest_17 ?_
      refine r_iload_n X d_M_earliest_18 rfl 1 rfl ?_
      refine r_icmp_ne (tgt := 45) X d_M_earliest_19 (by decide) (fun hc8 => ?_) (fun hc8 => ?_)
      · have hf := (if_neg hc8).symm.trans hf
        refine r_widen (kc2 := 0) (ks2 := 0) (Nat.le_of_ble_eq_true rfl) (Nat.le_of_ble_eq_true rfl) ?_
        refine r_sub [0, 1, 2, 3] (lv' := [(0, tR v0), (1, tI v1), (2, tI v2), (3, tI v3)]) rfl ?_
        exact b_M_earliest_45 X hret hlk hnm n (f_M_earliest_4 n i) ih v0 v1 v2 v3 σ hf
      · have hf := (if_pos hc8).symm.trans hf
        refine r_iload_n X d_M_earliest_22 rfl 2 rfl ?_
        refine r_iconst (v := -1) X d_M_earliest_23 (by decide) ?_
        refine r_icmp_eq (tgt := 43) X d_M_earliest_24 (by decide) (fun hc9 => ?_) (fun hc9 => ?_)
        · have hf := (if_pos hc9).symm.trans hf
          refine r_widen (kc2 := 0) (ks2 := 0) (Nat.le_of_ble_eq_true rfl) (Nat.le_of_ble_eq_true rfl) ?_
          refine r_sub [0, 1, 3] (lv' := [(0, tR v0), (1, tI v1), (3, tI v3)]) rfl ?_
          exact b_M_earliest_43 X hret hlk hnm n (f_M_earliest_4 n i) ih v0 v1 v3 σ hf
        · have hf := (if_neg hc9).symm.trans hf
          refine r_aload_n X d_M_earliest_27 rfl 0 rfl ?_
          obtain ⟨x10, h11, hf⟩ := obind hf
          refine r_ld_R (ci := 11) (k := 19) X h11 (Nat.le_of_ble_eq_true rfl) (Nat.le_of_ble_eq_true rfl) rfl rfl q723 d_M_earliest_28 ?_
          refine r_iload_n X d_M_earliest_31 rfl 3 rfl ?_
          obtain ⟨x12, h13, hf⟩ := obind hf
          refine r_al_L X h13 d_M_earliest_32 ?_
          refine r_aload_n X d_M_earliest_33 rfl 0 rfl ?_
          obtain ⟨x14, h15, hf⟩ := obind hf
          refine r_ld_R (ci := 11) (k := 19) X h15 (Nat.le_of_ble_eq_true rfl) (Nat.le_of_ble_eq_true rfl) rfl rfl q723 d_M_earliest_34 ?_
          refine r_iload_n X d_M_earliest_37 rfl 2 rfl ?_
          obtain ⟨x16, h17, hf⟩ := obind hf
          refine r_al_L X h17 d_M_earliest_38 ?_
          refine r_lcmp X d_M_earliest_39 ?_
          refine r_if_ge (tgt := 45) X d_M_earliest_40 (by decide) (fun hc18 => ?_) (fun hc18 => ?_)
          · have hf := (if_pos hc18).symm.trans hf
            refine r_widen (kc2 := 0) (ks2 := 0) (Nat.le_of_ble_eq_true rfl) (Nat.le_of_ble_eq_true rfl) ?_
            refine r_sub [0, 1, 2, 3] (lv' := [(0, tR v0), (1, tI v1), (2, tI v2), (3, tI v3)]) rfl ?_
            exact b_M_earliest_45 X hret hlk hnm n (f_M_earliest_4 n i) ih v0 v1 v2 v3 σ hf
          · have hf := (if_neg hc18).symm.trans hf
            refine r_widen (kc2 := 0) (ks2 := 0) (Nat.le_of_ble_eq_true rfl) (Nat.le_of_ble_eq_true rfl) ?_
            refine r_sub [0, 1, 3] (lv' := [(0, tR v0), (1, tI v1), (3, tI v3)]) rfl ?_
            exact b_M_earliest_43 X hret hlk hnm n (f_M_earliest_4 n i) ih v0 v1 v3 σ hf

def f_M_earliest (n : Nat) (v0 : Option Nat) (v1 : Int32) (σ : Hp) : Option (Int32 × Hp) :=
  f_M_earliest_4 n  n v0 v1 ((-1)) 0 σ
set_option maxRecDepth 100000 in
theorem c_M_earliest {l : Launch} {DD : DT} (n : Nat) (v0 : Option Nat) (v1 : Int32) {σ0 σz : Hp} {rz : Int32} (hf : f_M_earliest n v0 v1 σ0 = some (rz, σz)) : CT l DD y_M_earliest prog_13_method_13_code 4 (some .int) rm_M_earliest [tR v0, tI v1] σ0 (some (tI rz)) σz := by
  refine r_met (by decide) (Nat.le_of_ble_eq_true rfl) ?_
  intro p e s m args below meth c X hret hlk hnm
  unfold f_M_earliest at hf
  refine r_iconst (v := -1) X d_M_earliest_0 (by decide) ?_
  refine r_istore_n (lv' := [(0, tR v0), (1, tI v1), (2, tI ((-1)))]) X [1, 2, 0] d_M_earliest_1 rfl (Nat.le_of_ble_eq_true rfl) rfl ?_
  refine r_iconst (v := 0) X d_M_earliest_2 (by decide) ?_
  refine r_istore_n (lv' := [(0, tR v0), (1, tI v1), (2, tI ((-1))), (3, tI 0)]) X [1, 2, 3, 0] d_M_earliest_3 rfl (Nat.le_of_ble_eq_true rfl) rfl ?_
  refine r_widen (kc2 := 0) (ks2 := 0) (Nat.le_of_ble_eq_true rfl) (Nat.le_of_ble_eq_true rfl) ?_
  refine r_sub [0, 1, 2, 3] (lv' := [(0, tR v0), (1, tI v1), (2, tI ((-1))), (3, tI 0)]) rfl ?_
  exact b_M_earliest_4 X hret hlk hnm n   n v0 v1 ((-1)) 0 σ0 hf

def f_M_lower_0 (n : Nat)  : Nat → Option Nat → Hp → Option Hp
  | 0, _, _ => none
  | i + 1, v0, σ =>
    Option.bind (is_O σ v0 11) fun x21 =>
    pb (f_M_weightOf n v0 3 σ) fun x24 σ23 =>
    Option.bind (ld_I σ23 v0 11 1) fun x25 =>
    Option.bind (ld_I σ23 v0 11 32) fun x27 =>
    if x24 ≤ (((x25 - x27) * 4) / 5) then
    (
      some σ23)
    else
    (
      Option.bind (is_O σ23 v0 11) fun x31 =>
      pb (f_M_earliest n v0 3 σ23) fun x34 σ33 =>
      Option.bind (is_O σ33 v0 11) fun x36 =>
      Option.bind (f_M_latest v0 x34 2 σ33) fun σ38 =>
      f_M_lower_0 n i v0 σ38)
set_option maxRecDepth 100000 in
theorem b_M_lower_0 {p : Program} {l : Launch} {e : Env} {s : State} {m : MethodId} {args : Array Value} {below : List Frame} {meth : Method} {c : Code} {DD : DT} {σ0 σz : Hp} (X : CX p s m args c prog_13_method_15_code 1 (dm σ0) DD y_M_lower.cls) (hret : meth.sig.returnType = none) (hlk : meth.locks = false) (hnm : meth.name = y_M_lower.name) (n : Nat)   : ∀ (i : Nat) (v0 : Option Nat) (σ : Hp) (hf : f_M_lower_0 n  i v0 σ = some σz), GG p l e rm_M_lower s m args below meth c 1 (dm σ0) DD (MQ below (Post DD σ0 none σz) args s rm_M_lower.cells rm_M_lower.slots (dm σ0)) 0 0 σ 0 [(0, tR v0)] [] := by
  intro i
  induction i with
  | zero => intro v0 σ hf; cases hf
  | succ i ih =>
    intro v0 σ hf
    simp only [f_M_lower_0] at hf
    refine r_aload_n X d_M_lower_0 rfl 0 rfl ?_
    refine r_iconst (v := 3) X d_M_lower_1 (by decide) ?_
    obtain ⟨x21, h20, hf⟩ := obind hf
    obtain ⟨x24, σ23, h22, hf⟩ := pbind hf
    refine r_callV (st := []) X [tI 3] (ci := 11) h20 (Nat.le_of_ble_eq_true rfl) q934 q936 sl33 (c_M_weightOf n v0 3 h22) q937 q11 y_M_weightOf_ok rfl ⟨Nat.le_of_ble_eq_true rfl, Nat.le_of_ble_eq_true rfl⟩ (Nat.le_of_ble_eq_true rfl) ⟨Nat.le_of_ble_eq_true rfl, Nat.le_of_ble_eq_true rfl⟩ d_M_lower_2 ?_
    refine r_aload_n X d_M_lower_5 rfl 0 rfl ?_
    obtain ⟨x25, h26, hf⟩ := obind hf
    refine r_ld_I (ci := 11) (k := 1) X h26 (Nat.le_of_ble_eq_true rfl) (Nat.le_of_ble_eq_true rfl) (Or.inl rfl) rfl q705 d_M_lower_6 ?_
    refine r_aload_n X d_M_lower_9 rfl 0 rfl ?_
    obtain ⟨x27, h28, hf⟩ := obind hf
    refine r_ld_I (ci := 11) (k := 32) X h28 (Nat.le_of_ble_eq_true rfl) (Nat.le_of_ble_eq_true rfl) (Or.inl rfl) rfl q736 d_M_lower_10 ?_
    refine r_isub X d_M_lower_13 ?_
    refine r_iconst (v := 4) X d_M_lower_14 (by decide) ?_
    refine r_imul X d_M_lower_15 ?_
    refine r_iconst (v := 5) X d_M_lower_16 (by decide) ?_
    refine r_idiv X d_M_lower_17 (by decide) ?_
    refine r_icmp_le (tgt := 34) X d_M_lower_18 (by decide) (fun hc29 => ?_) (fun hc29 => ?_)
    · have hf := (if_pos hc29).symm.trans hf
      cases hf
      refine r_widen (kc2 := rm_M_lower.cells) (ks2 := rm_M_lower.slots) (Nat.le_of_ble_eq_true rfl) (Nat.le_of_ble_eq_true rfl) ?_
      exact r_vret X hret hlk d_M_lower_34
    · have hf := (if_neg hc29).symm.trans hf
      refine r_aload_n X d_M_lower_21 rfl 0 rfl ?_
      refine r_aload_n X d_M_lower_22 rfl 0 rfl ?_
      refine r_iconst (v := 3) X d_M_lower_23 (by decide) ?_
      obtain ⟨x31, h30, hf⟩ := obind hf
      obtain ⟨x34, σ33, h32, hf⟩ := pbind hf
      refine r_callV (st := [tR v0]) X [tI 3] (ci := 11) h30 (Nat.le_of_ble_eq_true rfl) q938 q940 sl34 (c_M_earliest n v0 3 h32) q941 q11 y_M_earliest_ok rfl ⟨Nat.le_of_ble_eq_true rfl, Nat.le_of_ble_eq_true rfl⟩ (Nat.le_of_ble_eq_true rfl) ⟨Nat.le_of_ble_eq_true rfl, Nat.le_of_ble_eq_true rfl⟩ d_M_lower_24 ?_
      refine r_iconst (v := 2) X d_M_lower_27 (by decide) ?_
      obtain ⟨x36, h35, hf⟩ := obind hf
      obtain ⟨σ38, h37, hf⟩ := obind hf
      refine r_callV (st := []) X [tI x34, tI 2] (ci := 11) h35 (Nat.le_of_ble_eq_true rfl) q926 q928 sl31 (c_M_latest v0 x34 2 h37) q929 q11 y_M_latest_ok rfl ⟨Nat.le_of_ble_eq_true rfl, Nat.le_of_ble_eq_true rfl⟩ (Nat.le_of_ble_eq_true rfl) ⟨Nat.le_of_ble_eq_true rfl, Nat.le_of_ble_eq_true rfl⟩ d_M_lower_28 ?_
      refine r_goto (tgt := 0) X d_M_lower_31 (by decide) ?_
      refine r_widen (kc2 := 0) (ks2 := 0) (Nat.le_of_ble_eq_true rfl) (Nat.le_of_ble_eq_true rfl) ?_
      refine r_sub [0] (lv' := [(0, tR v0)]) rfl ?_
      exact ih v0 σ38 hf

def f_M_lower (n : Nat) (v0 : Option Nat) (σ : Hp) : Option Hp :=
  Option.bind (is_O σ v0 11) fun x2 =>
  pb (f_M_weightOf n v0 3 σ) fun x5 σ4 =>
  Option.bind (ld_I σ4 v0 11 1) fun x6 =>
  Option.bind (ld_I σ4 v0 11 32) fun x8 =>
  if x5 ≤ (((x6 - x8) * 4) / 5) then
  (
    some σ4)
  else
  (
    Option.bind (is_O σ4 v0 11) fun x12 =>
    pb (f_M_earliest n v0 3 σ4) fun x15 σ14 =>
    Option.bind (is_O σ14 v0 11) fun x17 =>
    Option.bind (f_M_latest v0 x15 2 σ14) fun σ19 =>
    f_M_lower_0 n  n v0 σ19)
set_option maxRecDepth 100000 in
theorem c_M_lower {l : Launch} {DD : DT} (n : Nat) (v0 : Option Nat) {σ0 σz : Hp} (hf : f_M_lower n v0 σ0 = some σz) : CT l DD y_M_lower prog_13_method_15_code 1 none rm_M_lower [tR v0] σ0 none σz := by
  refine r_met (by decide) (Nat.le_of_ble_eq_true rfl) ?_
  intro p e s m args below meth c X hret hlk hnm
  unfold f_M_lower at hf
  refine r_aload_n X d_M_lower_0 rfl 0 rfl ?_
  refine r_iconst (v := 3) X d_M_lower_1 (by decide) ?_
  obtain ⟨x2, h1, hf⟩ := obind hf
  obtain ⟨x5, σ4, h3, hf⟩ := pbind hf
  refine r_callV (st := []) X [tI 3] (ci := 11) h1 (Nat.le_of_ble_eq_true rfl) q934 q936 sl33 (c_M_weightOf n v0 3 h3) q937 q11 y_M_weightOf_ok rfl ⟨Nat.le_of_ble_eq_true rfl, Nat.le_of_ble_eq_true rfl⟩ (Nat.le_of_ble_eq_true rfl) ⟨Nat.le_of_ble_eq_true rfl, Nat.le_of_ble_eq_true rfl⟩ d_M_lower_2 ?_
  refine r_aload_n X d_M_lower_5 rfl 0 rfl ?_
  obtain ⟨x6, h7, hf⟩ := obind hf
  refine r_ld_I (ci := 11) (k := 1) X h7 (Nat.le_of_ble_eq_true rfl) (Nat.le_of_ble_eq_true rfl) (Or.inl rfl) rfl q705 d_M_lower_6 ?_
  refine r_aload_n X d_M_lower_9 rfl 0 rfl ?_
  obtain ⟨x8, h9, hf⟩ := obind hf
  refine r_ld_I (ci := 11) (k := 32) X h9 (Nat.le_of_ble_eq_true rfl) (Nat.le_of_ble_eq_true rfl) (Or.inl rfl) rfl q736 d_M_lower_10 ?_
  refine r_isub X d_M_lower_13 ?_
  refine r_iconst (v := 4) X d_M_lower_14 (by decide) ?_
  refine r_imul X d_M_lower_15 ?_
  refine r_iconst (v := 5) X d_M_lower_16 (by decide) ?_
  refine r_idiv X d_M_lower_17 (by decide) ?_
  refine r_icmp_le (tgt := 34) X d_M_lower_18 (by decide) (fun hc10 => ?_) (fun hc10 => ?_)
  · have hf := (if_pos hc10).symm.trans hf
    cases hf
    refine r_widen (kc2 := rm_M_lower.cells) (ks2 := rm_M_lower.slots) (Nat.le_of_ble_eq_true rfl) (Nat.le_of_ble_eq_true rfl) ?_
    exact r_vret X hret hlk d_M_lower_34
  · have hf := (if_neg hc10).symm.trans hf
    refine r_aload_n X d_M_lower_21 rfl 0 rfl ?_
    refine r_aload_n X d_M_lower_22 rfl 0 rfl ?_
    refine r_iconst (v := 3) X d_M_lower_23 (by decide) ?_
    obtain ⟨x12, h11, hf⟩ := obind hf
    obtain ⟨x15, σ14, h13, hf⟩ := pbind hf
    refine r_callV (st := [tR v0]) X [tI 3] (ci := 11) h11 (Nat.le_of_ble_eq_true rfl) q938 q940 sl34 (c_M_earliest n v0 3 h13) q941 q11 y_M_earliest_ok rfl ⟨Nat.le_of_ble_eq_true rfl, Nat.le_of_ble_eq_true rfl⟩ (Nat.le_of_ble_eq_true rfl) ⟨Nat.le_of_ble_eq_true rfl, Nat.le_of_ble_eq_true rfl⟩ d_M_lower_24 ?_
    refine r_iconst (v := 2) X d_M_lower_27 (by decide) ?_
    obtain ⟨x17, h16, hf⟩ := obind hf
    obtain ⟨σ19, h18, hf⟩ := obind hf
    refine r_callV (st := []) X [tI x15, tI 2] (ci := 11) h16 (Nat.le_of_ble_eq_true rfl) q926 q928 sl31 (c_M_latest v0 x15 2 h18) q929 q11 y_M_latest_ok rfl ⟨Nat.le_of_ble_eq_true rfl, Nat.le_of_ble_eq_true rfl⟩ (Nat.le_of_ble_eq_true rfl) ⟨Nat.le_of_ble_eq_true rfl, Nat.le_of_ble_eq_true rfl⟩ d_M_lower_28 ?_
    refine r_goto (tgt := 0) X d_M_lower_31 (by decide) ?_
    refine r_widen (kc2 := 0) (ks2 := 0) (Nat.le_of_ble_eq_true rfl) (Nat.le_of_ble_eq_true rfl) ?_
    refine r_sub [0] (lv' := [(0, tR v0)]) rfl ?_
    exact b_M_lower_0 X hret hlk hnm n   n v0 σ19 hf

def f_M_touched_17 (n : Nat)  (v0 : Option Nat) (w0 : Int32) (w1 : Int32) (w2 : Option Nat) (σ : Hp) : Option Hp :=
  Option.bind (is_O σ w2 11) fun x7 =>
  Option.bind (f_M_latest w2 w1 w0 σ) fun σ9 =>
  Option.bind (is_O σ9 v0 11) fun x11 =>
  Option.bind (f_M_lower n v0 σ9) fun σ13 =>
  some σ13
set_option maxRecDepth 100000 in
theorem b_M_touched_17 {p : Program} {l : Launch} {e : Env} {s : State} {m : MethodId} {args : Array Value} {below : List Frame} {meth : Method} {c : Code} {DD : DT} {σ0 σz : Hp} (X : CX p s m args c prog_13_method_16_code 2 (dm σ0) DD y_M_touched.cls) (hret : meth.sig.returnType = none) (hlk : meth.locks = false) (hnm : meth.name = y_M_touched.name) (n : Nat)   (v0 : Option Nat) (w0 : Int32) (w1 : Int32) (w2 : Option Nat) (σ : Hp) (hf : f_M_touched_17 n  v0 w0 w1 w2 σ = some σz) : GG p l e rm_M_touched s m args below meth c 2 (dm σ0) DD (MQ below (Post DD σ0 none σz) args s rm_M_touched.cells rm_M_touched.slots (dm σ0)) 0 0 σ 17 [(0, tR v0)] [tI w0, tI w1, tR w2] := by
  unfold f_M_touched_17 at hf
  obtain ⟨x7, h6, hf⟩ := obind hf
  obtain ⟨σ9, h8, hf⟩ := obind hf
  refine r_callV (st := []) X [tI w1, tI w0] (ci := 11) h6 (Nat.le_of_ble_eq_true rfl) q926 q928 sl31 (c_M_latest w2 w1 w0 h8) q929 q11 y_M_latest_ok rfl ⟨Nat.le_of_ble_eq_true rfl, Nat.le_of_ble_eq_true rfl⟩ (Nat.le_of_ble_eq_true rfl) ⟨Nat.le_of_ble_eq_true rfl, Nat.le_of_ble_eq_true rfl⟩ d_M_touched_17 ?_
  refine r_aload_n X d_M_touched_20 rfl 0 rfl ?_
  obtain ⟨x11, h10, hf⟩ := obind hf
  obtain ⟨σ13, h12, hf⟩ := obind hf
  refine r_callV (st := []) X [] (ci := 11) h10 (Nat.le_of_ble_eq_true rfl) q930 q932 sl32 (c_M_lower n v0 h12) q933 q11 y_M_lower_ok rfl ⟨Nat.le_of_ble_eq_true rfl, Nat.le_of_ble_eq_true rfl⟩ (Nat.le_of_ble_eq_true rfl) ⟨Nat.le_of_ble_eq_true rfl, Nat.le_of_ble_eq_true rfl⟩ d_M_touched_21 ?_
  cases hf
  refine r_widen (kc2 := rm_M_touched.cells) (ks2 := rm_M_touched.slots) (Nat.le_of_ble_eq_true rfl) (Nat.le_of_ble_eq_true rfl) ?_
  exact r_vret X hret hlk d_M_touched_24

def f_M_touched (n : Nat) (v0 : Option Nat) (v1 : Int32) (σ : Hp) : Option Hp :=
  Option.bind (ld_R σ v0 11 15) fun x1 =>
  Option.bind (al_I σ 0 x1 v1) fun x3 =>
  if x3 = 1 then
  (
    f_M_touched_17 n  v0 1 v1 v0 σ)
  else
  (
    f_M_touched_17 n  v0 3 v1 v0 σ)
set_option maxRecDepth 100000 in
theorem c_M_touched {l : Launch} {DD : DT} (n : Nat) (v0 : Option Nat) (v1 : Int32) {σ0 σz : Hp} (hf : f_M_touched n v0 v1 σ0 = some σz) : CT l DD y_M_touched prog_13_method_16_code 2 none rm_M_touched [tR v0, tI v1] σ0 none σz := by
  refine r_met (by decide) (Nat.le_of_ble_eq_true rfl) ?_
  intro p e s m args below meth c X hret hlk hnm
  unfold f_M_touched at hf
  refine r_aload_n X d_M_touched_0 rfl 0 rfl ?_
  refine r_iload_n X d_M_touched_1 rfl 1 rfl ?_
  refine r_aload_n X d_M_touched_2 rfl 0 rfl ?_
  obtain ⟨x1, h2, hf⟩ := obind hf
  refine r_ld_R (ci := 11) (k := 15) X h2 (Nat.le_of_ble_eq_true rfl) (Nat.le_of_ble_eq_true rfl) rfl rfl q719 d_M_touched_3 ?_
  refine r_iload_n X d_M_touched_6 rfl 1 rfl ?_
  obtain ⟨x3, h4, hf⟩ := obind hf
  refine r_al_I X h4 d_M_touched_7 ?_
  refine r_iconst (v := 1) X d_M_touched_8 (by decide) ?_
  refine r_icmp_ne (tgt := 16) X d_M_touched_9 (by decide) (fun hc5 => ?_) (fun hc5 => ?_)
  · have hf := (if_neg hc5).symm.trans hf
    refine r_iconst (v := 3) X d_M_touched_16 (by decide) ?_
    refine r_widen (kc2 := 0) (ks2 := 0) (Nat.le_of_ble_eq_true rfl) (Nat.le_of_ble_eq_true rfl) ?_
    refine r_sub [0] (lv' := [(0, tR v0)]) rfl ?_
    exact b_M_touched_17 X hret hlk hnm n   v0 3 v1 v0 σ0 hf
  · have hf := (if_pos hc5).symm.trans hf
    refine r_iconst (v := 1) X d_M_touched_12 (by decide) ?_
    refine r_goto (tgt := 17) X d_M_touched_13 (by decide) ?_
    refine r_widen (kc2 := 0) (ks2 := 0) (Nat.le_of_ble_eq_true rfl) (Nat.le_of_ble_eq_true rfl) ?_
    refine r_sub [0] (lv' := [(0, tR v0)]) rfl ?_
    exact b_M_touched_17 X hret hlk hnm n   v0 1 v1 v0 σ0 hf

def f_M_workNotes_58 (n : Nat) (rec2 : Option Nat → Int32 → Hp → Option Hp) (rec9 : Option Nat → Int32 → Int32 → Hp → Option Hp) (v0 : Option Nat) (v1 : Int32) (v2 : Int32) (σ : Hp) : Option Hp :=
  rec9 v0 v1 (v2 + 1) σ
set_option maxRecDepth 100000 in
theorem b_M_workNotes_58 {p : Program} {l : Launch} {e : Env} {s : State} {m : MethodId} {args : Array Value} {below : List Frame} {meth : Method} {c : Code} {DD : DT} {σ0 σz : Hp} (X : CX p s m args c prog_13_method_20_code 4 (dm σ0) DD y_M_workNotes.cls) (hret : meth.sig.returnType = none) (hlk : meth.locks = false) (hnm : meth.name = y_M_workNotes.name) (n : Nat) (rec2 : Option Nat → Int32 → Hp → Option Hp) (rec9 : Option Nat → Int32 → Int32 → Hp → Option Hp) (hrec2 : ∀ (v0 : Option Nat) (v1 : Int32) (σ : Hp), rec2 v0 v1 σ = some σz → GG p l e rm_M_workNotes s m args below meth c 4 (dm σ0) DD (MQ below (Post DD σ0 none σz) args s rm_M_workNotes.cells rm_M_workNotes.slots (dm σ0)) 0 0 σ 2 [(0, tR v0), (1, tI v1)] []) (hrec9 : ∀ (v0 : Option Nat) (v1 : Int32) (v2 : Int32) (σ : Hp), rec9 v0 v1 v2 σ = some σz → GG p l e rm_M_workNotes s m args below meth c 4 (dm σ0) DD (MQ below (Post DD σ0 none σz) args s rm_M_workNotes.cells rm_M_workNotes.slots (dm σ0)) 0 0 σ 9 [(0, tR v0), (1, tI v1), (2, tI v2)] []) (v0 : Option Nat) (v1 : Int32) (v2 : Int32) (σ : Hp) (hf : f_M_workNotes_58 n rec2 rec9 v0 v1 v2 σ = some σz) : GG p l e rm_M_workNotes s m args below meth c 4 (dm σ0) DD (MQ below (Post DD σ0 none σz) args s rm_M_workNotes.cells rm_M_workNotes.slots (dm σ0)) 0 0 σ 58 [(0, tR v0), (1, tI v1), (2, tI v2)] [] := by
  unfold f_M_workNotes_58 at hf
  refine r_iinc (lv' := [(0, tR v0), (1, tI v1), (2, tI (v2 + 1))]) (j := 2) X [1, 2, 0] d_M_workNotes_58 rfl rfl (Nat.le_of_ble_eq_true rfl) rfl ?_
  refine r_goto (tgt := 9) X d_M_workNotes_61 (by decide) ?_
  refine r_widen (kc2 := 0) (ks2 := 0) (Nat.le_of_ble_eq_true rfl) (Nat.le_of_ble_eq_true rfl) ?_
  refine r_sub [0, 1, 2] (lv' := [(0, tR v0), (1, tI v1), (2, tI (v2 + 1))]) rfl ?_
  exact hrec9 v0 v1 (v2 + 1) σ hf

def f_M_workNotes_9 (n : Nat) (rec2 : Option Nat → Int32 → Hp → Option Hp) : Nat → Option Nat → Int32 → Int32 → Hp → Option Hp
  | 0, _, _, _, _ => none
  | i + 1, v0, v1, v2, σ =>
    Option.bind (ld_R σ v0 11 24) fun x2 =>
    Option.bind (al_I σ 0 x2 v1) fun x4 =>
    if x4 ≤ v2 then
    (
      Option.bind (ld_R σ v0 11 24) fun x7 =>
      Option.bind (as_I σ 0 x7 v1 0) fun σ9 =>
      rec2 v0 (v1 + 1) σ9)
    else
    (
      Option.bind (ld_R σ v0 11 23) fun x11 =>
      Option.bind (al_I σ 0 x11 ((16 * v1) + v2)) fun x13 =>
      Option.bind (ld_R σ v0 11 15) fun x15 =>
      Option.bind (al_I σ 0 x15 x13) fun x17 =>
      if x17 = 0 then
      (
        f_M_workNotes_58 n rec2 (f_M_workNotes_9 n rec2 i) v0 v1 v2 σ)
      else
      (
        Option.bind (ld_R σ v0 11 11) fun x20 =>
        Option.bind (al_I σ 0 x20 x13) fun x22 =>
        Option.bind (is_O σ v0 11) fun x25 =>
        Option.bind (f_M_count1 n v0 x22 σ) fun σ27 =>
        Option.bind (is_O σ27 v0 11) fun x29 =>
        Option.bind (f_M_touched n v0 x13 σ27) fun σ31 =>
        f_M_workNotes_58 n rec2 (f_M_workNotes_9 n rec2 i) v0 v1 v2 σ31))
set_option maxRecDepth 100000 in
theorem b_M_workNotes_9 {p : Program} {l : Launch} {e : Env} {s : State} {m : MethodId} {args : Array Value} {below : List Frame} {meth : Method} {c : Code} {DD : DT} {σ0 σz : Hp} (X : CX p s m args c prog_13_method_20_code 4 (dm σ0) DD y_M_workNotes.cls) (hret : meth.sig.returnType = none) (hlk : meth.locks = false) (hnm : meth.name = y_M_workNotes.name) (n : Nat) (rec2 : Option Nat → Int32 → Hp → Option Hp) (hrec2 : ∀ (v0 : Option Nat) (v1 : Int32) (σ : Hp), rec2 v0 v1 σ = some σz → GG p l e rm_M_workNotes s m args below meth c 4 (dm σ0) DD (MQ below (Post DD σ0 none σz) args s rm_M_workNotes.cells rm_M_workNotes.slots (dm σ0)) 0 0 σ 2 [(0, tR v0), (1, tI v1)] []) : ∀ (i : Nat) (v0 : Option Nat) (v1 : Int32) (v2 : Int32) (σ : Hp) (hf : f_M_workNotes_9 n rec2 i v0 v1 v2 σ = some σz), GG p l e rm_M_workNotes s m args below meth c 4 (dm σ0) DD (MQ below (Post DD σ0 none σz) args s rm_M_workNotes.cells rm_M_workNotes.slots (dm σ0)) 0 0 σ 9 [(0, tR v0), (1, tI v1), (2, tI v2)] [] := by
  intro i
  induction i with
  | zero => intro v0 v1 v2 σ hf; cases hf
  | succ i ih =>
    intro v0 v1 v2 σ hf
    simp only [f_M_workNotes_9] at hf
    refine r_iload_n X d_M_workNotes_9 rfl 2 rfl ?_
    refine r_aload_n X d_M_workNotes_10 rfl 0 rfl ?_
    obtain ⟨x2, h3, hf⟩ := obind hf
    refine r_ld_R (ci := 11) (k := 24) X h3 (Nat.le_of_ble_eq_true rfl) (Nat.le_of_ble_eq_true rfl) rfl rfl q728 d_M_workNotes_11 ?_
    refine r_iload_n X d_M_workNotes_14 rfl 1 rfl ?_
    obtain ⟨x4, h5, hf⟩ := obind hf
    refine r_al_I X h5 d_M_workNotes_15 ?_
    refine r_icmp_ge (tgt := 64) X d_M_workNotes_16 (by decide) (fun hc6 => ?_) (fun hc6 => ?_)
    · have hf := (if_pos hc6).symm.trans hf
      refine r_aload_n X d_M_workNotes_64 rfl 0 rfl ?_
      obtain ⟨x7, h8, hf⟩ := obind hf
      refine r_ld_R (ci := 11) (k := 24) X h8 (Nat.le_of_ble_eq_true rfl) (Nat.le_of_ble_eq_true rfl) rfl rfl q728 d_M_workNotes_65 ?_
      refine r_iload_n X d_M_workNotes_68 rfl 1 rfl ?_
      refine r_iconst (v := 0) X d_M_workNotes_69 (by decide) ?_
      obtain ⟨σ9, h10, hf⟩ := obind hf
      refine r_as_I X h10 d_M_workNotes_70 ?_
      refine r_iinc (lv' := [(0, tR v0), (1, tI (v1 + 1)), (2, tI v2)]) (j := 1) X [1, 0, 2] d_M_workNotes_71 rfl rfl (Nat.le_of_ble_eq_true rfl) rfl ?_
      refine r_goto (tgt := 2) X d_M_workNotes_74 (by decide) ?_
      refine r_widen (kc2 := 0) (ks2 := 0) (Nat.le_of_ble_eq_true rfl) (Nat.le_of_ble_eq_true rfl) ?_
      refine r_sub [0, 1] (lv' := [(0, tR v0), (1, tI (v1 + 1))]) rfl ?_
      exact hrec2 v0 (v1 + 1) σ9 hf
    · have hf := (if_neg hc6).symm.trans hf
      refine r_aload_n X d_M_workNotes_19 rfl 0 rfl ?_
      obtain ⟨x11, h12, hf⟩ := obind hf
      refine r_ld_R (ci := 11) (k := 23) X h12 (Nat.le_of_ble_eq_true rfl) (Nat.le_of_ble_eq_true rfl) rfl rfl q727 d_M_workNotes_20 ?_
      refine r_bipush (v := 16) X d_M_workNotes_23 (by decide) ?_
      refine r_iload_n X d_M_workNotes_25 rfl 1 rfl ?_
      refine r_imul X d_M_workNotes_26 ?_
      refine r_iload_n X d_M_workNotes_27 rfl 2 rfl ?_
      refine r_iadd X d_M_workNotes_28 ?_
      obtain ⟨x13, h14, hf⟩ := obind hf
      refine r_al_I X h14 d_M_workNotes_29 ?_
      refine r_istore_n (lv' := [(0, tR v0), (1, tI v1), (2, tI v2), (3, tI x13)]) X [1, 2, 3, 0] d_M_workNotes_30 rfl (Nat.le_of_ble_eq_true rfl) rfl ?_
      refine r_aload_n X d_M_workNotes_31 rfl 0 rfl ?_
      obtain ⟨x15, h16, hf⟩ := obind hf
      refine r_ld_R (ci := 11) (k := 15) X h16 (Nat.le_of_ble_eq_true rfl) (Nat.le_of_ble_eq_true rfl) rfl rfl q719 d_M_workNotes_32 ?_
      refine r_iload_n X d_M_workNotes_35 rfl 3 rfl ?_
      obtain ⟨x17, h18, hf⟩ := obind hf
      refine r_al_I X h18 d_M_workNotes_36 ?_
      refine r_if_ne (tgt := 43) X d_M_workNotes_37 (by decide) (fun hc19 => ?_) (fun hc19 => ?_)
      · have hf := (if_neg hc19).symm.trans hf
        refine r_aload_n X d_M_workNotes_43 rfl 0 rfl ?_
        refine r_aload_n X d_M_workNotes_44 rfl 0 rfl ?_
        obtain ⟨x20, h21, hf⟩ := obind hf
        refine r_ld_R (ci := 11) (k := 11) X h21 (Nat.le_of_ble_eq_true rfl) (Nat.le_of_ble_eq_true rfl) rfl rfl q715 d_M_workNotes_45 ?_
        refine r_iload_n X d_M_workNotes_48 rfl 3 rfl ?_
        obtain ⟨x22, h23, hf⟩ := obind hf
        refine r_al_I X h23 d_M_workNotes_49 ?_
        obtain ⟨x25, h24, hf⟩ := obind hf
        obtain ⟨σ27, h26, hf⟩ := obind hf
        refine r_callV (st := []) X [tI x22] (ci := 11) h24 (Nat.le_of_ble_eq_true rfl) q914 q916 sl28 (c_M_count1 n v0 x22 h26) q917 q11 y_M_count1_ok rfl ⟨Nat.le_of_ble_eq_true rfl, Nat.le_of_ble_eq_true rfl⟩ (Nat.le_of_ble_eq_true rfl) ⟨Nat.le_of_ble_eq_true rfl, Nat.le_of_ble_eq_true rfl⟩ d_M_workNotes_50 ?_
        refine r_aload_n X d_M_workNotes_53 rfl 0 rfl ?_
        refine r_iload_n X d_M_workNotes_54 rfl 3 rfl ?_
        obtain ⟨x29, h28, hf⟩ := obind hf
        obtain ⟨σ31, h30, hf⟩ := obind hf
        refine r_callV (st := []) X [tI x13] (ci := 11) h28 (Nat.le_of_ble_eq_true rfl) q922 q924 sl30 (c_M_touched n v0 x13 h30) q925 q11 y_M_touched_ok rfl ⟨Nat.le_of_ble_eq_true rfl, Nat.le_of_ble_eq_true rfl⟩ (Nat.le_of_ble_eq_true rfl) ⟨Nat.le_of_ble_eq_true rfl, Nat.le_of_ble_eq_true rfl⟩ d_M_workNotes_55 ?_
        refine r_widen (kc2 := 0) (ks2 := 0) (Nat.le_of_ble_eq_true rfl) (Nat.le_of_ble_eq_true rfl) ?_
        refine r_sub [0, 1, 2] (lv' := [(0, tR v0), (1, tI v1), (2, tI v2)]) rfl ?_
        exact b_M_workNotes_58 X hret hlk hnm n rec2 (f_M_workNotes_9 n rec2 i) hrec2 ih v0 v1 v2 σ31 hf
      · have hf := (if_pos hc19).symm.trans hf
        refine r_goto (tgt := 58) X d_M_workNotes_40 (by decide) ?_
        refine r_widen (kc2 := 0) (ks2 := 0) (Nat.le_of_ble_eq_true rfl) (Nat.le_of_ble_eq_true rfl) ?_
        refine r_sub [0, 1, 2] (lv' := [(0, tR v0), (1, tI v1), (2, tI v2)]) rfl ?_
        exact b_M_workNotes_58 X hret hlk hnm n rec2 (f_M_workNotes_9 n rec2 i) hrec2 ih v0 v1 v2 σ hf

def f_M_workNotes_2 (n : Nat)  : Nat → Option Nat → Int32 → Hp → Option Hp
  | 0, _, _, _ => none
  | i + 1, v0, v1, σ =>
    if 2 ≤ v1 then
    (
      some σ)
    else
    (
      f_M_workNotes_9 n (f_M_workNotes_2 n i) n v0 v1 0 σ)
set_option maxRecDepth 100000 in
theorem b_M_workNotes_2 {p : Program} {l : Launch} {e : Env} {s : State} {m : MethodId} {args : Array Value} {below : List Frame} {meth : Method} {c : Code} {DD : DT} {σ0 σz : Hp} (X : CX p s m args c prog_13_method_20_code 4 (dm σ0) DD y_M_workNotes.cls) (hret : meth.sig.returnType = none) (hlk : meth.locks = false) (hnm : meth.name = y_M_workNotes.name) (n : Nat)   : ∀ (i : Nat) (v0 : Option Nat) (v1 : Int32) (σ : Hp) (hf : f_M_workNotes_2 n  i v0 v1 σ = some σz), GG p l e rm_M_workNotes s m args below meth c 4 (dm σ0) DD (MQ below (Post DD σ0 none σz) args s rm_M_workNotes.cells rm_M_workNotes.slots (dm σ0)) 0 0 σ 2 [(0, tR v0), (1, tI v1)] [] := by
  intro i
  induction i with
  | zero => intro v0 v1 σ hf; cases hf
  | succ i ih =>
    intro v0 v1 σ hf
    simp only [f_M_workNotes_2] at hf
    refine r_iload_n X d_M_workNotes_2 rfl 1 rfl ?_
    refine r_iconst (v := 2) X d_M_workNotes_3 (by decide) ?_
    refine r_icmp_ge (tgt := 77) X d_M_workNotes_4 (by decide) (fun hc1 => ?_) (fun hc1 => ?_)
    · have hf := (if_pos hc1).symm.trans hf
      cases hf
      refine r_widen (kc2 := rm_M_workNotes.cells) (ks2 := rm_M_workNotes.slots) (Nat.le_of_ble_eq_true rfl) (Nat.le_of_ble_eq_true rfl) ?_
      exact r_vret X hret hlk d_M_workNotes_77
    · have hf := (if_neg hc1).symm.trans hf
      refine r_iconst (v := 0) X d_M_workNotes_7 (by decide) ?_
      refine r_istore_n (lv' := [(0, tR v0), (1, tI v1), (2, tI 0)]) X [1, 2, 0] d_M_workNotes_8 rfl (Nat.le_of_ble_eq_true rfl) rfl ?_
      refine r_widen (kc2 := 0) (ks2 := 0) (Nat.le_of_ble_eq_true rfl) (Nat.le_of_ble_eq_true rfl) ?_
      refine r_sub [0, 1, 2] (lv' := [(0, tR v0), (1, tI v1), (2, tI 0)]) rfl ?_
      exact b_M_workNotes_9 X hret hlk hnm n (f_M_workNotes_2 n i) ih n v0 v1 0 σ hf

def f_M_workNotes (n : Nat) (v0 : Option Nat) (σ : Hp) : Option Hp :=
  f_M_workNotes_2 n  n v0 0 σ
set_option maxRecDepth 100000 in
theorem c_M_workNotes {l : Launch} {DD : DT} (n : Nat) (v0 : Option Nat) {σ0 σz : Hp} (hf : f_M_workNotes n v0 σ0 = some σz) : CT l DD y_M_workNotes prog_13_method_20_code 4 none rm_M_workNotes [tR v0] σ0 none σz := by
  refine r_met (by decide) (Nat.le_of_ble_eq_true rfl) ?_
  intro p e s m args below meth c X hret hlk hnm
  unfold f_M_workNotes at hf
  refine r_iconst (v := 0) X d_M_workNotes_0 (by decide) ?_
  refine r_istore_n (lv' := [(0, tR v0), (1, tI 0)]) X [1, 0] d_M_workNotes_1 rfl (Nat.le_of_ble_eq_true rfl) rfl ?_
  refine r_widen (kc2 := 0) (ks2 := 0) (Nat.le_of_ble_eq_true rfl) (Nat.le_of_ble_eq_true rfl) ?_
  refine r_sub [0, 1] (lv' := [(0, tR v0), (1, tI 0)]) rfl ?_
  exact b_M_workNotes_2 X hret hlk hnm n   n v0 0 σ0 hf

def f_M_workTasks_95 (n : Nat) (rec2 : Option Nat → Int32 → Hp → Option Hp) (v0 : Option Nat) (v1 : Int32) (σ : Hp) : Option Hp :=
  rec2 v0 (v1 + 1) σ
set_option maxRecDepth 100000 in
theorem b_M_workTasks_95 {p : Program} {l : Launch} {e : Env} {s : State} {m : MethodId} {args : Array Value} {below : List Frame} {meth : Method} {c : Code} {DD : DT} {σ0 σz : Hp} (X : CX p s m args c prog_13_method_21_code 3 (dm σ0) DD y_M_workTasks.cls) (hret : meth.sig.returnType = none) (hlk : meth.locks = false) (hnm : meth.name = y_M_workTasks.name) (n : Nat) (rec2 : Option Nat → Int32 → Hp → Option Hp) (hrec2 : ∀ (v0 : Option Nat) (v1 : Int32) (σ : Hp), rec2 v0 v1 σ = some σz → GG p l e rm_M_workTasks s m args below meth c 3 (dm σ0) DD (MQ below (Post DD σ0 none σz) args s rm_M_workTasks.cells rm_M_workTasks.slots (dm σ0)) 0 0 σ 2 [(0, tR v0), (1, tI v1)] []) (v0 : Option Nat) (v1 : Int32) (σ : Hp) (hf : f_M_workTasks_95 n rec2 v0 v1 σ = some σz) : GG p l e rm_M_workTasks s m args below meth c 3 (dm σ0) DD (MQ below (Post DD σ0 none σz) args s rm_M_workTasks.cells rm_M_workTasks.slots (dm σ0)) 0 0 σ 95 [(0, tR v0), (1, tI v1)] [] := by
  unfold f_M_workTasks_95 at hf
  refine r_iinc (lv' := [(0, tR v0), (1, tI (v1 + 1))]) (j := 1) X [1, 0] d_M_workTasks_95 rfl rfl (Nat.le_of_ble_eq_true rfl) rfl ?_
  refine r_goto (tgt := 2) X d_M_workTasks_98 (by decide) ?_
  refine r_widen (kc2 := 0) (ks2 := 0) (Nat.le_of_ble_eq_true rfl) (Nat.le_of_ble_eq_true rfl) ?_
  refine r_sub [0, 1] (lv' := [(0, tR v0), (1, tI (v1 + 1))]) rfl ?_
  exact hrec2 v0 (v1 + 1) σ hf

def f_M_workTasks_71 (n : Nat) (rec2 : Option Nat → Int32 → Hp → Option Hp) (v0 : Option Nat) (v1 : Int32) (v2 : Int32) (σ : Hp) : Option Hp :=
  Option.bind (ld_R σ v0 11 25) fun x28 =>
  Option.bind (al_I σ 0 x28 v1) fun x30 =>
  if x30 = 1 then
  (
    Option.bind (ld_R σ v0 11 15) fun x33 =>
    Option.bind (al_I σ 0 x33 v2) fun x35 =>
    if x35 ≤ 0 then
    (
      f_M_workTasks_95 n rec2 v0 v1 σ)
    else
    (
      Option.bind (is_O σ v0 11) fun x39 =>
      Option.bind (f_M_touched n v0 v2 σ) fun σ41 =>
      f_M_workTasks_95 n rec2 v0 v1 σ41))
  else
  (
    f_M_workTasks_95 n rec2 v0 v1 σ)
set_option maxRecDepth 100000 in
theorem b_M_workTasks_71 {p : Program} {l : Launch} {e : Env} {s : State} {m : MethodId} {args : Array Value} {below : List Frame} {meth : Method} {c : Code} {DD : DT} {σ0 σz : Hp} (X : CX p s m args c prog_13_method_21_code 3 (dm σ0) DD y_M_workTasks.cls) (hret : meth.sig.returnType = none) (hlk : meth.locks = false) (hnm : meth.name = y_M_workTasks.name) (n : Nat) (rec2 : Option Nat → Int32 → Hp → Option Hp) (hrec2 : ∀ (v0 : Option Nat) (v1 : Int32) (σ : Hp), rec2 v0 v1 σ = some σz → GG p l e rm_M_workTasks s m args below meth c 3 (dm σ0) DD (MQ below (Post DD σ0 none σz) args s rm_M_workTasks.cells rm_M_workTasks.slots (dm σ0)) 0 0 σ 2 [(0, tR v0), (1, tI v1)] []) (v0 : Option Nat) (v1 : Int32) (v2 : Int32) (σ : Hp) (hf : f_M_workTasks_71 n rec2 v0 v1 v2 σ = some σz) : GG p l e rm_M_workTasks s m args below meth c 3 (dm σ0) DD (MQ below (Post DD σ0 none σz) args s rm_M_workTasks.cells rm_M_workTasks.slots (dm σ0)) 0 0 σ 71 [(0, tR v0), (1, tI v1), (2, tI v2)] [] := by
  unfold f_M_workTasks_71 at hf
  refine r_aload_n X d_M_workTasks_71 rfl 0 rfl ?_
  obtain ⟨x28, h29, hf⟩ := obind hf
  refine r_ld_R (ci := 11) (k := 25) X h29 (Nat.le_of_ble_eq_true rfl) (Nat.le_of_ble_eq_true rfl) rfl rfl q729 d_M_workTasks_72 ?_
  refine r_iload_n X d_M_workTasks_75 rfl 1 rfl ?_
  obtain ⟨x30, h31, hf⟩ := obind hf
  refine r_al_I X h31 d_M_workTasks_76 ?_
  refine r_iconst (v := 1) X d_M_workTasks_77 (by decide) ?_
  refine r_icmp_ne (tgt := 95) X d_M_workTasks_78 (by decide) (fun hc32 => ?_) (fun hc32 => ?_)
  · have hf := (if_neg hc32).symm.trans hf
    refine r_widen (kc2 := 0) (ks2 := 0) (Nat.le_of_ble_eq_true rfl) (Nat.le_of_ble_eq_true rfl) ?_
    refine r_sub [0, 1] (lv' := [(0, tR v0), (1, tI v1)]) rfl ?_
    exact b_M_workTasks_95 X hret hlk hnm n rec2 hrec2 v0 v1 σ hf
  · have hf := (if_pos hc32).symm.trans hf
    refine r_aload_n X d_M_workTasks_81 rfl 0 rfl ?_
    obtain ⟨x33, h34, hf⟩ := obind hf
    refine r_ld_R (ci := 11) (k := 15) X h34 (Nat.le_of_ble_eq_true rfl) (Nat.le_of_ble_eq_true rfl) rfl rfl q719 d_M_workTasks_82 ?_
    refine r_iload_n X d_M_workTasks_85 rfl 2 rfl ?_
    obtain ⟨x35, h36, hf⟩ := obind hf
    refine r_al_I X h36 d_M_workTasks_86 ?_
    refine r_if_le (tgt := 95) X d_M_workTasks_87 (by decide) (fun hc37 => ?_) (fun hc37 => ?_)
    · have hf := (if_pos hc37).symm.trans hf
      refine r_widen (kc2 := 0) (ks2 := 0) (Nat.le_of_ble_eq_true rfl) (Nat.le_of_ble_eq_true rfl) ?_
      refine r_sub [0, 1] (lv' := [(0, tR v0), (1, tI v1)]) rfl ?_
      exact b_M_workTasks_95 X hret hlk hnm n rec2 hrec2 v0 v1 σ hf
    · have hf := (if_neg hc37).symm.trans hf
      refine r_aload_n X d_M_workTasks_90 rfl 0 rfl ?_
      refine r_iload_n X d_M_workTasks_91 rfl 2 rfl ?_
      obtain ⟨x39, h38, hf⟩ := obind hf
      obtain ⟨σ41, h40, hf⟩ := obind hf
      refine r_callV (st := []) X [tI v2] (ci := 11) h38 (Nat.le_of_ble_eq_true rfl) q922 q924 sl30 (c_M_touched n v0 v2 h40) q925 q11 y_M_touched_ok rfl ⟨Nat.le_of_ble_eq_true rfl, Nat.le_of_ble_eq_true rfl⟩ (Nat.le_of_ble_eq_true rfl) ⟨Nat.le_of_ble_eq_true rfl, Nat.le_of_ble_eq_true rfl⟩ d_M_workTasks_92 ?_
      refine r_widen (kc2 := 0) (ks2 := 0) (Nat.le_of_ble_eq_true rfl) (Nat.le_of_ble_eq_true rfl) ?_
      refine r_sub [0, 1] (lv' := [(0, tR v0), (1, tI v1)]) rfl ?_
      exact b_M_workTasks_95 X hret hlk hnm n rec2 hrec2 v0 v1 σ41 hf

def f_M_workTasks_2 (n : Nat)  : Nat → Option Nat → Int32 → Hp → Option Hp
  | 0, _, _, _ => none
  | i + 1, v0, v1, σ =>
    Option.bind (ld_I σ v0 11 27) fun x1 =>
    if x1 ≤ v1 then
    (
      Option.bind (st_I σ v0 11 27 0) fun σ4 =>
      some σ4)
    else
    (
      Option.bind (ld_R σ v0 11 26) fun x6 =>
      Option.bind (al_I σ 0 x6 v1) fun x8 =>
      Option.bind (ld_R σ v0 11 25) fun x10 =>
      Option.bind (al_I σ 0 x10 v1) fun x12 =>
      if x12 = 2 then
      (
        Option.bind (ld_R σ v0 11 15) fun x51 =>
        Option.bind (as_I σ 0 x51 x8 0) fun σ53 =>
        f_M_workTasks_95 n (f_M_workTasks_2 n i) v0 v1 σ53)
      else
      (
        Option.bind (ld_R σ v0 11 11) fun x15 =>
        Option.bind (al_I σ 0 x15 x8) fun x17 =>
        Option.bind (is_O σ v0 11) fun x20 =>
        Option.bind (f_M_count1 n v0 x17 σ) fun σ22 =>
        Option.bind (ld_R σ22 v0 11 25) fun x23 =>
        Option.bind (al_I σ22 0 x23 v1) fun x25 =>
        if x25 = 0 then
        (
          Option.bind (ld_R σ22 v0 11 20) fun x42 =>
          Option.bind (al_I σ22 2 x42 x8) fun x44 =>
          if x44 = 0 then
          (
            f_M_workTasks_71 n (f_M_workTasks_2 n i) v0 v1 x8 σ22)
          else
          (
            Option.bind (is_O σ22 v0 11) fun x48 =>
            Option.bind (f_M_latest v0 x8 1 σ22) fun σ50 =>
            f_M_workTasks_71 n (f_M_workTasks_2 n i) v0 v1 x8 σ50))
        else
        (
          f_M_workTasks_71 n (f_M_workTasks_2 n i) v0 v1 x8 σ22)))
set_option maxRecDepth 100000 in
theorem b_M_workTasks_2 {p : Program} {l : Launch} {e : Env} {s : State} {m : MethodId} {args : Array Value} {below : List Frame} {meth : Method} {c : Code} {DD : DT} {σ0 σz : Hp} (X : CX p s m args c prog_13_method_21_code 3 (dm σ0) DD y_M_workTasks.cls) (hret : meth.sig.returnType = none) (hlk : meth.locks = false) (hnm : meth.name = y_M_workTasks.name) (n : Nat)   : ∀ (i : Nat) (v0 : Option Nat) (v1 : Int32) (σ : Hp) (hf : f_M_workTasks_2 n  i v0 v1 σ = some σz), GG p l e rm_M_workTasks s m args below meth c 3 (dm σ0) DD (MQ below (Post DD σ0 none σz) args s rm_M_workTasks.cells rm_M_workTasks.slots (dm σ0)) 0 0 σ 2 [(0, tR v0), (1, tI v1)] [] := by
  intro i
  induction i with
  | zero => intro v0 v1 σ hf; cases hf
  | succ i ih =>
    intro v0 v1 σ hf
    simp only [f_M_workTasks_2] at hf
    refine r_iload_n X d_M_workTasks_2 rfl 1 rfl ?_
    refine r_aload_n X d_M_workTasks_3 rfl 0 rfl ?_
    obtain ⟨x1, h2, hf⟩ := obind hf
    refine r_ld_I (ci := 11) (k := 27) X h2 (Nat.le_of_ble_eq_true rfl) (Nat.le_of_ble_eq_true rfl) (Or.inl rfl) rfl q731 d_M_workTasks_4 ?_
    refine r_icmp_ge (tgt := 101) X d_M_workTasks_7 (by decide) (fun hc3 => ?_) (fun hc3 => ?_)
    · have hf := (if_pos hc3).symm.trans hf
      refine r_aload_n X d_M_workTasks_101 rfl 0 rfl ?_
      refine r_iconst (v := 0) X d_M_workTasks_102 (by decide) ?_
      obtain ⟨σ4, h5, hf⟩ := obind hf
      refine r_st_I (ci := 11) (k := 27) X h5 (Nat.le_of_ble_eq_true rfl) (Nat.le_of_ble_eq_true rfl) rfl rfl rfl q731 d_M_workTasks_103 ?_
      cases hf
      refine r_widen (kc2 := rm_M_workTasks.cells) (ks2 := rm_M_workTasks.slots) (Nat.le_of_ble_eq_true rfl) (Nat.le_of_ble_eq_true rfl) ?_
      exact r_vret X hret hlk d_M_workTasks_106
    · have hf := (if_neg hc3).symm.trans hf
      refine r_aload_n X d_M_workTasks_10 rfl 0 rfl ?_
      obtain ⟨x6, h7, hf⟩ := obind hf
      refine r_ld_R (ci := 11) (k := 26) X h7 (Nat.le_of_ble_eq_true rfl) (Nat.le_of_ble_eq_true rfl) rfl rfl q730 d_M_workTasks_11 ?_
      refine r_iload_n X d_M_workTasks_14 rfl 1 rfl ?_
      obtain ⟨x8, h9, hf⟩ := obind hf
      refine r_al_I X h9 d_M_workTasks_15 ?_
      refine r_istore_n (lv' := [(0, tR v0), (1, tI v1), (2, tI x8)]) X [1, 2, 0] d_M_workTasks_16 rfl (Nat.le_of_ble_eq_true rfl) rfl ?_
      refine r_aload_n X d_M_workTasks_17 rfl 0 rfl ?_
      obtain ⟨x10, h11, hf⟩ := obind hf
      refine r_ld_R (ci := 11) (k := 25) X h11 (Nat.le_of_ble_eq_true rfl) (Nat.le_of_ble_eq_true rfl) rfl rfl q729 d_M_workTasks_18 ?_
      refine r_iload_n X d_M_workTasks_21 rfl 1 rfl ?_
      obtain ⟨x12, h13, hf⟩ := obind hf
      refine r_al_I X h13 d_M_workTasks_22 ?_
      refine r_iconst (v := 2) X d_M_workTasks_23 (by decide) ?_
      refine r_icmp_ne (tgt := 37) X d_M_workTasks_24 (by decide) (fun hc14 => ?_) (fun hc14 => ?_)
      · have hf := (if_neg hc14).symm.trans hf
        refine r_aload_n X d_M_workTasks_37 rfl 0 rfl ?_
        refine r_aload_n X d_M_workTasks_38 rfl 0 rfl ?_
        obtain ⟨x15, h16, hf⟩ := obind hf
        refine r_ld_R (ci := 11) (k := 11) X h16 (Nat.le_of_ble_eq_true rfl) (Nat.le_of_ble_eq_true rfl) rfl rfl q715 d_M_workTasks_39 ?_
        refine r_iload_n X d_M_workTasks_42 rfl 2 rfl ?_
        obtain ⟨x17, h18, hf⟩ := obind hf
        refine r_al_I X h18 d_M_workTasks_43 ?_
        obtain ⟨x20, h19, hf⟩ := obind hf
        obtain ⟨σ22, h21, hf⟩ := obind hf
        refine r_callV (st := []) X [tI x17] (ci := 11) h19 (Nat.le_of_ble_eq_true rfl) q914 q916 sl28 (c_M_count1 n v0 x17 h21) q917 q11 y_M_count1_ok rfl ⟨Nat.le_of_ble_eq_true rfl, Nat.le_of_ble_eq_true rfl⟩ (Nat.le_of_ble_eq_true rfl) ⟨Nat.le_of_ble_eq_true rfl, Nat.le_of_ble_eq_true rfl⟩ d_M_workTasks_44 ?_
        refine r_aload_n X d_M_workTasks_47 rfl 0 rfl ?_
        obtain ⟨x23, h24, hf⟩ := obind hf
        refine r_ld_R (ci := 11) (k := 25) X h24 (Nat.le_of_ble_eq_true rfl) (Nat.le_of_ble_eq_true rfl) rfl rfl q729 d_M_workTasks_48 ?_
        refine r_iload_n X d_M_workTasks_51 rfl 1 rfl ?_
        obtain ⟨x25, h26, hf⟩ := obind hf
        refine r_al_I X h26 d_M_workTasks_52 ?_
        refine r_if_ne (tgt := 71) X d_M_workTasks_53 (by decide) (fun hc27 => ?_) (fun hc27 => ?_)
        · have hf := (if_neg hc27).symm.trans hf
          refine r_widen (kc2 := 0) (ks2 := 0) (Nat.le_of_ble_eq_true rfl) (Nat.le_of_ble_eq_true rfl) ?_
          refine r_sub [0, 1, 2] (lv' := [(0, tR v0), (1, tI v1), (2, tI x8)]) rfl ?_
          exact b_M_workTasks_71 X hret hlk hnm n (f_M_workTasks_2 n i) ih v0 v1 x8 σ22 hf
        · have hf := (if_pos hc27).symm.trans hf
          refine r_aload_n X d_M_workTasks_56 rfl 0 rfl ?_
          obtain ⟨x42, h43, hf⟩ := obind hf
          refine r_ld_R (ci := 11) (k := 20) X h43 (Nat.le_of_ble_eq_true rfl) (Nat.le_of_ble_eq_true rfl) rfl rfl q724 d_M_workTasks_57 ?_
          refine r_iload_n X d_M_workTasks_60 rfl 2 rfl ?_
          obtain ⟨x44, h45, hf⟩ := obind hf
          refine r_al_Z X h45 d_M_workTasks_61 ?_
          refine r_if_eq (tgt := 71) X d_M_workTasks_62 (by decide) (fun hc46 => ?_) (fun hc46 => ?_)
          · have hf := (if_pos hc46).symm.trans hf
            refine r_widen (kc2 := 0) (ks2 := 0) (Nat.le_of_ble_eq_true rfl) (Nat.le_of_ble_eq_true rfl) ?_
            refine r_sub [0, 1, 2] (lv' := [(0, tR v0), (1, tI v1), (2, tI x8)]) rfl ?_
            exact b_M_workTasks_71 X hret hlk hnm n (f_M_workTasks_2 n i) ih v0 v1 x8 σ22 hf
          · have hf := (if_neg hc46).symm.trans hf
            refine r_aload_n X d_M_workTasks_65 rfl 0 rfl ?_
            refine r_iload_n X d_M_workTasks_66 rfl 2 rfl ?_
            refine r_iconst (v := 1) X d_M_workTasks_67 (by decide) ?_
            obtain ⟨x48, h47, hf⟩ := obind hf
            obtain ⟨σ50, h49, hf⟩ := obind hf
            refine r_callV (st := []) X [tI x8, tI 1] (ci := 11) h47 (Nat.le_of_ble_eq_true rfl) q926 q928 sl31 (c_M_latest v0 x8 1 h49) q929 q11 y_M_latest_ok rfl ⟨Nat.le_of_ble_eq_true rfl, Nat.le_of_ble_eq_true rfl⟩ (Nat.le_of_ble_eq_true rfl) ⟨Nat.le_of_ble_eq_true rfl, Nat.le_of_ble_eq_true rfl⟩ d_M_workTasks_68 ?_
            refine r_widen (kc2 := 0) (ks2 := 0) (Nat.le_of_ble_eq_true rfl) (Nat.le_of_ble_eq_true rfl) ?_
            refine r_sub [0, 1, 2] (lv' := [(0, tR v0), (1, tI v1), (2, tI x8)]) rfl ?_
            exact b_M_workTasks_71 X hret hlk hnm n (f_M_workTasks_2 n i) ih v0 v1 x8 σ50 hf
      · have hf := (if_pos hc14).symm.trans hf
        refine r_aload_n X d_M_workTasks_27 rfl 0 rfl ?_
        obtain ⟨x51, h52, hf⟩ := obind hf
        refine r_ld_R (ci := 11) (k := 15) X h52 (Nat.le_of_ble_eq_true rfl) (Nat.le_of_ble_eq_true rfl) rfl rfl q719 d_M_workTasks_28 ?_
        refine r_iload_n X d_M_workTasks_31 rfl 2 rfl ?_
        refine r_iconst (v := 0) X d_M_workTasks_32 (by decide) ?_
        obtain ⟨σ53, h54, hf⟩ := obind hf
        refine r_as_I X h54 d_M_workTasks_33 ?_
        refine r_goto (tgt := 95) X d_M_workTasks_34 (by decide) ?_
        refine r_widen (kc2 := 0) (ks2 := 0) (Nat.le_of_ble_eq_true rfl) (Nat.le_of_ble_eq_true rfl) ?_
        refine r_sub [0, 1] (lv' := [(0, tR v0), (1, tI v1)]) rfl ?_
        exact b_M_workTasks_95 X hret hlk hnm n (f_M_workTasks_2 n i) ih v0 v1 σ53 hf

def f_M_workTasks (n : Nat) (v0 : Option Nat) (σ : Hp) : Option Hp :=
  f_M_workTasks_2 n  n v0 0 σ
set_option maxRecDepth 100000 in
theorem c_M_workTasks {l : Launch} {DD : DT} (n : Nat) (v0 : Option Nat) {σ0 σz : Hp} (hf : f_M_workTasks n v0 σ0 = some σz) : CT l DD y_M_workTasks prog_13_method_21_code 3 none rm_M_workTasks [tR v0] σ0 none σz := by
  refine r_met (by decide) (Nat.le_of_ble_eq_true rfl) ?_
  intro p e s m args below meth c X hret hlk hnm
  unfold f_M_workTasks at hf
  refine r_iconst (v := 0) X d_M_workTasks_0 (by decide) ?_
  refine r_istore_n (lv' := [(0, tR v0), (1, tI 0)]) X [1, 0] d_M_workTasks_1 rfl (Nat.le_of_ble_eq_true rfl) rfl ?_
  refine r_widen (kc2 := 0) (ks2 := 0) (Nat.le_of_ble_eq_true rfl) (Nat.le_of_ble_eq_true rfl) ?_
  refine r_sub [0, 1] (lv' := [(0, tR v0), (1, tI 0)]) rfl ?_
  exact b_M_workTasks_2 X hret hlk hnm n   n v0 0 σ0 hf

def f_M_expire_104 (n : Nat) (rec2 : Option Nat → Int32 → Hp → Option Hp) (v0 : Option Nat) (v2 : Int32) (w0 : Int32) (σ : Hp) : Option Hp :=
  if w0 = 0 then
  (
    some σ)
  else
  (
    Option.bind (ld_R σ v0 11 15) fun x7 =>
    Option.bind (as_I σ 0 x7 v2 0) fun σ9 =>
    Option.bind (is_O σ9 v0 11) fun x12 =>
    Option.bind (f_M_drop v0 v2 2 σ9) fun σ14 =>
    rec2 v0 w0 σ14)
set_option maxRecDepth 100000 in
theorem b_M_expire_104 {p : Program} {l : Launch} {e : Env} {s : State} {m : MethodId} {args : Array Value} {below : List Frame} {meth : Method} {c : Code} {DD : DT} {σ0 σz : Hp} (X : CX p s m args c prog_13_method_22_code 4 (dm σ0) DD y_M_expire.cls) (hret : meth.sig.returnType = none) (hlk : meth.locks = false) (hnm : meth.name = y_M_expire.name) (n : Nat) (rec2 : Option Nat → Int32 → Hp → Option Hp) (hrec2 : ∀ (v0 : Option Nat) (v1 : Int32) (σ : Hp), rec2 v0 v1 σ = some σz → GG p l e rm_M_expire s m args below meth c 4 (dm σ0) DD (MQ below (Post DD σ0 none σz) args s rm_M_expire.cells rm_M_expire.slots (dm σ0)) 0 0 σ 2 [(0, tR v0), (1, tI v1)] []) (v0 : Option Nat) (v2 : Int32) (w0 : Int32) (σ : Hp) (hf : f_M_expire_104 n rec2 v0 v2 w0 σ = some σz) : GG p l e rm_M_expire s m args below meth c 4 (dm σ0) DD (MQ below (Post DD σ0 none σz) args s rm_M_expire.cells rm_M_expire.slots (dm σ0)) 0 0 σ 104 [(0, tR v0), (2, tI v2)] [tI w0] := by
  unfold f_M_expire_104 at hf
  refine r_istore_n (lv' := [(0, tR v0), (1, tI w0), (2, tI v2)]) X [1, 0, 2] d_M_expire_104 rfl (Nat.le_of_ble_eq_true rfl) rfl ?_
  refine r_iload_n X d_M_expire_105 rfl 1 rfl ?_
  refine r_if_ne (tgt := 110) X d_M_expire_106 (by decide) (fun hc6 => ?_) (fun hc6 => ?_)
  · have hf := (if_neg hc6).symm.trans hf
    refine r_aload_n X d_M_expire_110 rfl 0 rfl ?_
    obtain ⟨x7, h8, hf⟩ := obind hf
    refine r_ld_R (ci := 11) (k := 15) X h8 (Nat.le_of_ble_eq_true rfl) (Nat.le_of_ble_eq_true rfl) rfl rfl q719 d_M_expire_111 ?_
    refine r_iload_n X d_M_expire_114 rfl 2 rfl ?_
    refine r_iconst (v := 0) X d_M_expire_115 (by decide) ?_
    obtain ⟨σ9, h10, hf⟩ := obind hf
    refine r_as_I X h10 d_M_expire_116 ?_
    refine r_aload_n X d_M_expire_117 rfl 0 rfl ?_
    refine r_iload_n X d_M_expire_118 rfl 2 rfl ?_
    refine r_iconst (v := 2) X d_M_expire_119 (by decide) ?_
    obtain ⟨x12, h11, hf⟩ := obind hf
    obtain ⟨σ14, h13, hf⟩ := obind hf
    refine r_callV (st := []) X [tI v2, tI 2] (ci := 11) h11 (Nat.le_of_ble_eq_true rfl) q898 q900 sl24 (c_M_drop v0 v2 2 h13) q901 q11 y_M_drop_ok rfl ⟨Nat.le_of_ble_eq_true rfl, Nat.le_of_ble_eq_true rfl⟩ (Nat.le_of_ble_eq_true rfl) ⟨Nat.le_of_ble_eq_true rfl, Nat.le_of_ble_eq_true rfl⟩ d_M_expire_120 ?_
    refine r_goto (tgt := 2) X d_M_expire_123 (by decide) ?_
    refine r_widen (kc2 := 0) (ks2 := 0) (Nat.le_of_ble_eq_true rfl) (Nat.le_of_ble_eq_true rfl) ?_
    refine r_sub [0, 1] (lv' := [(0, tR v0), (1, tI w0)]) rfl ?_
    exact hrec2 v0 w0 σ14 hf
  · have hf := (if_pos hc6).symm.trans hf
    cases hf
    refine r_widen (kc2 := rm_M_expire.cells) (ks2 := rm_M_expire.slots) (Nat.le_of_ble_eq_true rfl) (Nat.le_of_ble_eq_true rfl) ?_
    exact r_vret X hret hlk d_M_expire_109

def f_M_expire_88 (n : Nat) (rec2 : Option Nat → Int32 → Hp → Option Hp) (rec10 : Option Nat → Int32 → Int32 → Hp → Option Hp) (v0 : Option Nat) (v2 : Int32) (v3 : Int32) (σ : Hp) : Option Hp :=
  rec10 v0 v2 (v3 + 1) σ
set_option maxRecDepth 100000 in
theorem b_M_expire_88 {p : Program} {l : Launch} {e : Env} {s : State} {m : MethodId} {args : Array Value} {below : List Frame} {meth : Method} {c : Code} {DD : DT} {σ0 σz : Hp} (X : CX p s m args c prog_13_method_22_code 4 (dm σ0) DD y_M_expire.cls) (hret : meth.sig.returnType = none) (hlk : meth.locks = false) (hnm : meth.name = y_M_expire.name) (n : Nat) (rec2 : Option Nat → Int32 → Hp → Option Hp) (rec10 : Option Nat → Int32 → Int32 → Hp → Option Hp) (hrec2 : ∀ (v0 : Option Nat) (v1 : Int32) (σ : Hp), rec2 v0 v1 σ = some σz → GG p l e rm_M_expire s m args below meth c 4 (dm σ0) DD (MQ below (Post DD σ0 none σz) args s rm_M_expire.cells rm_M_expire.slots (dm σ0)) 0 0 σ 2 [(0, tR v0), (1, tI v1)] []) (hrec10 : ∀ (v0 : Option Nat) (v2 : Int32) (v3 : Int32) (σ : Hp), rec10 v0 v2 v3 σ = some σz → GG p l e rm_M_expire s m args below meth c 4 (dm σ0) DD (MQ below (Post DD σ0 none σz) args s rm_M_expire.cells rm_M_expire.slots (dm σ0)) 0 0 σ 10 [(0, tR v0), (2, tI v2), (3, tI v3)] []) (v0 : Option Nat) (v2 : Int32) (v3 : Int32) (σ : Hp) (hf : f_M_expire_88 n rec2 rec10 v0 v2 v3 σ = some σz) : GG p l e rm_M_expire s m args below meth c 4 (dm σ0) DD (MQ below (Post DD σ0 none σz) args s rm_M_expire.cells rm_M_expire.slots (dm σ0)) 0 0 σ 88 [(0, tR v0), (2, tI v2), (3, tI v3)] [] := by
  unfold f_M_expire_88 at hf
  refine r_iinc (lv' := [(0, tR v0), (2, tI v2), (3, tI (v3 + 1))]) (j := 2) X [1, 2, 0] d_M_expire_88 rfl rfl (Nat.le_of_ble_eq_true rfl) rfl ?_
  refine r_goto (tgt := 10) X d_M_expire_91 (by decide) ?_
  refine r_widen (kc2 := 0) (ks2 := 0) (Nat.le_of_ble_eq_true rfl) (Nat.le_of_ble_eq_true rfl) ?_
  refine r_sub [0, 1, 2] (lv' := [(0, tR v0), (2, tI v2), (3, tI (v3 + 1))]) rfl ?_
  exact hrec10 v0 v2 (v3 + 1) σ hf

def f_M_expire_86 (n : Nat) (rec2 : Option Nat → Int32 → Hp → Option Hp) (rec10 : Option Nat → Int32 → Int32 → Hp → Option Hp) (v0 : Option Nat) (v3 : Int32) (σ : Hp) : Option Hp :=
  f_M_expire_88 n rec2 rec10 v0 v3 v3 σ
set_option maxRecDepth 100000 in
theorem b_M_expire_86 {p : Program} {l : Launch} {e : Env} {s : State} {m : MethodId} {args : Array Value} {below : List Frame} {meth : Method} {c : Code} {DD : DT} {σ0 σz : Hp} (X : CX p s m args c prog_13_method_22_code 4 (dm σ0) DD y_M_expire.cls) (hret : meth.sig.returnType = none) (hlk : meth.locks = false) (hnm : meth.name = y_M_expire.name) (n : Nat) (rec2 : Option Nat → Int32 → Hp → Option Hp) (rec10 : Option Nat → Int32 → Int32 → Hp → Option Hp) (hrec2 : ∀ (v0 : Option Nat) (v1 : Int32) (σ : Hp), rec2 v0 v1 σ = some σz → GG p l e rm_M_expire s m args below meth c 4 (dm σ0) DD (MQ below (Post DD σ0 none σz) args s rm_M_expire.cells rm_M_expire.slots (dm σ0)) 0 0 σ 2 [(0, tR v0), (1, tI v1)] []) (hrec10 : ∀ (v0 : Option Nat) (v2 : Int32) (v3 : Int32) (σ : Hp), rec10 v0 v2 v3 σ = some σz → GG p l e rm_M_expire s m args below meth c 4 (dm σ0) DD (MQ below (Post DD σ0 none σz) args s rm_M_expire.cells rm_M_expire.slots (dm σ0)) 0 0 σ 10 [(0, tR v0), (2, tI v2), (3, tI v3)] []) (v0 : Option Nat) (v3 : Int32) (σ : Hp) (hf : f_M_expire_86 n rec2 rec10 v0 v3 σ = some σz) : GG p l e rm_M_expire s m args below meth c 4 (dm σ0) DD (MQ below (Post DD σ0 none σz) args s rm_M_expire.cells rm_M_expire.slots (dm σ0)) 0 0 σ 86 [(0, tR v0), (3, tI v3)] [] := by
  unfold f_M_expire_86 at hf
  refine r_iload_n X d_M_expire_86 rfl 1 rfl ?_
  refine r_istore_n (lv' := [(0, tR v0), (2, tI v3), (3, tI v3)]) X [1, 0, 2] d_M_expire_87 rfl (Nat.le_of_ble_eq_true rfl) rfl ?_
  refine r_widen (kc2 := 0) (ks2 := 0) (Nat.le_of_ble_eq_true rfl) (Nat.le_of_ble_eq_true rfl) ?_
  refine r_sub [0, 1, 2] (lv' := [(0, tR v0), (2, tI v3), (3, tI v3)]) rfl ?_
  exact b_M_expire_88 X hret hlk hnm n rec2 rec10 hrec2 hrec10 v0 v3 v3 σ hf

def f_M_expire_10 (n : Nat) (rec2 : Option Nat → Int32 → Hp → Option Hp) : Nat → Option Nat → Int32 → Int32 → Hp → Option Hp
  | 0, _, _, _, _ => none
  | i + 1, v0, v2, v3, σ =>
    Option.bind (ld_I σ v0 11 10) fun x2 =>
    if x2 ≤ v3 then
    (
      if v2 = ((-1)) then
      (
        f_M_expire_104 n rec2 v0 v2 0 σ)
      else
      (
        f_M_expire_104 n rec2 v0 v2 1 σ))
    else
    (
      Option.bind (ld_R σ v0 11 15) fun x15 =>
      Option.bind (al_I σ 0 x15 v3) fun x17 =>
      if x17 = 0 then
      (
        f_M_expire_88 n rec2 (f_M_expire_10 n rec2 i) v0 v2 v3 σ)
      else
      (
        Option.bind (is_O σ v0 11) fun x21 =>
        pb (f_M_isOver v0 v3 σ) fun x24 σ23 =>
        if x24 = 0 then
        (
          f_M_expire_88 n rec2 (f_M_expire_10 n rec2 i) v0 v2 v3 σ23)
        else
        (
          if v2 = ((-1)) then
          (
            f_M_expire_86 n rec2 (f_M_expire_10 n rec2 i) v0 v3 σ23)
          else
          (
            Option.bind (is_O σ23 v0 11) fun x28 =>
            pb (f_M_end v0 v3 σ23) fun x31 σ30 =>
            Option.bind (is_O σ30 v0 11) fun x33 =>
            pb (f_M_end v0 v2 σ30) fun x36 σ35 =>
            if (lg_cmp x31 x36) < 0 then
            (
              f_M_expire_86 n rec2 (f_M_expire_10 n rec2 i) v0 v3 σ35)
            else
            (
              Option.bind (is_O σ35 v0 11) fun x39 =>
              pb (f_M_end v0 v3 σ35) fun x42 σ41 =>
              Option.bind (is_O σ41 v0 11) fun x44 =>
              pb (f_M_end v0 v2 σ41) fun x47 σ46 =>
              if (lg_cmp x42 x47) = 0 then
              (
                Option.bind (ld_R σ46 v0 11 11) fun x49 =>
                Option.bind (al_I σ46 0 x49 v3) fun x51 =>
                Option.bind (ld_R σ46 v0 11 11) fun x53 =>
                Option.bind (al_I σ46 0 x53 v2) fun x55 =>
                if x55 ≤ x51 then
                (
                  f_M_expire_88 n rec2 (f_M_expire_10 n rec2 i) v0 v2 v3 σ46)
                else
                (
                  f_M_expire_86 n rec2 (f_M_expire_10 n rec2 i) v0 v3 σ46))
              else
              (
                f_M_expire_88 n rec2 (f_M_expire_10 n rec2 i) v0 v2 v3 σ46))))))
set_option maxRecDepth 100000 in
theorem b_M_expire_10 {p : Program} {l : Launch} {e : Env} {s : State} {m : MethodId} {args : Array Value} {below : List Frame} {meth : Method} {c : Code} {DD : DT} {σ0 σz : Hp} (X : CX p s m args c prog_13_method_22_code 4 (dm σ0) DD y_M_expire.cls) (hret : meth.sig.returnType = none) (hlk : meth.locks = false) (hnm : meth.name = y_M_expire.name) (n : Nat) (rec2 : Option Nat → Int32 → Hp → Option Hp) (hrec2 : ∀ (v0 : Option Nat) (v1 : Int32) (σ : Hp), rec2 v0 v1 σ = some σz → GG p l e rm_M_expire s m args below meth c 4 (dm σ0) DD (MQ below (Post DD σ0 none σz) args s rm_M_expire.cells rm_M_expire.slots (dm σ0)) 0 0 σ 2 [(0, tR v0), (1, tI v1)] []) : ∀ (i : Nat) (v0 : Option Nat) (v2 : Int32) (v3 : Int32) (σ : Hp) (hf : f_M_expire_10 n rec2 i v0 v2 v3 σ = some σz), GG p l e rm_M_expire s m args below meth c 4 (dm σ0) DD (MQ below (Post DD σ0 none σz) args s rm_M_expire.cells rm_M_expire.slots (dm σ0)) 0 0 σ 10 [(0, tR v0), (2, tI v2), (3, tI v3)] [] := by
  intro i
  induction i with
  | zero => intro v0 v2 v3 σ hf; cases hf
  | succ i ih =>
    intro v0 v2 v3 σ hf
    simp only [f_M_expire_10] at hf
    refine r_iload_n X d_M_expire_10 rfl 2 rfl ?_
    refine r_aload_n X d_M_expire_11 rfl 0 rfl ?_
    obtain ⟨x2, h3, hf⟩ := obind hf
    refine r_ld_I (ci := 11) (k := 10) X h3 (Nat.le_of_ble_eq_true rfl) (Nat.le_of_ble_eq_true rfl) (Or.inl rfl) rfl q714 d_M_expire_12 ?_
    refine r_icmp_ge (tgt := 94) X d_M_expire_15 (by decide) (fun hc4 => ?_) (fun hc4 => ?_)
    · have hf := (if_pos hc4).symm.trans hf
      refine r_iload_n X d_M_expire_94 rfl 1 rfl ?_
      refine r_iconst (v := -1) X d_M_expire_95 (by decide) ?_
      refine r_icmp_eq (tgt := 103) X d_M_expire_96 (by decide) (fun hc5 => ?_) (fun hc5 => ?_)
      · have hf := (if_pos hc5).symm.trans hf
        refine r_iconst (v := 0) X d_M_expire_103 (by decide) ?_
        refine r_widen (kc2 := 0) (ks2 := 0) (Nat.le_of_ble_eq_true rfl) (Nat.le_of_ble_eq_true rfl) ?_
        refine r_sub [0, 1] (lv' := [(0, tR v0), (2, tI v2)]) rfl ?_
        exact b_M_expire_104 X hret hlk hnm n rec2 hrec2 v0 v2 0 σ hf
      · have hf := (if_neg hc5).symm.trans hf
        refine r_iconst (v := 1) X d_M_expire_99 (by decide) ?_
        refine r_goto (tgt := 104) X d_M_expire_100 (by decide) ?_
        refine r_widen (kc2 := 0) (ks2 := 0) (Nat.le_of_ble_eq_true rfl) (Nat.le_of_ble_eq_true rfl) ?_
        refine r_sub [0, 1] (lv' := [(0, tR v0), (2, tI v2)]) rfl ?_
        exact b_M_expire_104 X hret hlk hnm n rec2 hrec2 v0 v2 1 σ hf
    · have hf := (if_neg hc4).symm.trans hf
      refine r_aload_n X d_M_expire_18 rfl 0 rfl ?_
      obtain ⟨x15, h16, hf⟩ := obind hf
      refine r_ld_R (ci := 11) (k := 15) X h16 (Nat.le_of_ble_eq_true rfl) (Nat.le_of_ble_eq_true rfl) rfl rfl q719 d_M_expire_19 ?_
      refine r_iload_n X d_M_expire_22 rfl 2 rfl ?_
      obtain ⟨x17, h18, hf⟩ := obind hf
      refine r_al_I X h18 d_M_expire_23 ?_
      refine r_if_eq (tgt := 88) X d_M_expire_24 (by decide) (fun hc19 => ?_) (fun hc19 => ?_)
      · have hf := (if_pos hc19).symm.trans hf
        refine r_widen (kc2 := 0) (ks2 := 0) (Nat.le_of_ble_eq_true rfl) (Nat.le_of_ble_eq_true rfl) ?_
        refine r_sub [0, 1, 2] (lv' := [(0, tR v0), (2, tI v2), (3, tI v3)]) rfl ?_
        exact b_M_expire_88 X hret hlk hnm n rec2 (f_M_expire_10 n rec2 i) hrec2 ih v0 v2 v3 σ hf
      · have hf := (if_neg hc19).symm.trans hf
        refine r_aload_n X d_M_expire_27 rfl 0 rfl ?_
        refine r_iload_n X d_M_expire_28 rfl 2 rfl ?_
        obtain ⟨x21, h20, hf⟩ := obind hf
        obtain ⟨x24, σ23, h22, hf⟩ := pbind hf
        refine r_callV (st := []) X [tI v3] (ci := 11) h20 (Nat.le_of_ble_eq_true rfl) q873 q875 sl20 (c_M_isOver v0 v3 h22) q876 q11 y_M_isOver_ok rfl ⟨Nat.le_of_ble_eq_true rfl, Nat.le_of_ble_eq_true rfl⟩ (Nat.le_of_ble_eq_true rfl) ⟨Nat.le_of_ble_eq_true rfl, Nat.le_of_ble_eq_true rfl⟩ d_M_expire_29 ?_
        refine r_if_ne (tgt := 38) X d_M_expire_32 (by decide) (fun hc25 => ?_) (fun hc25 => ?_)
        · have hf := (if_neg hc25).symm.trans hf
          refine r_iload_n X d_M_expire_38 rfl 1 rfl ?_
          refine r_iconst (v := -1) X d_M_expire_39 (by decide) ?_
          refine r_icmp_eq (tgt := 86) X d_M_expire_40 (by decide) (fun hc26 => ?_) (fun hc26 => ?_)
          · have hf := (if_pos hc26).symm.trans hf
            refine r_widen (kc2 := 0) (ks2 := 0) (Nat.le_of_ble_eq_true rfl) (Nat.le_of_ble_eq_true rfl) ?_
            refine r_sub [0, 2] (lv' := [(0, tR v0), (3, tI v3)]) rfl ?_
            exact b_M_expire_86 X hret hlk hnm n rec2 (f_M_expire_10 n rec2 i) hrec2 ih v0 v3 σ23 hf
          · have hf := (if_neg hc26).symm.trans hf
            refine r_aload_n X d_M_expire_43 rfl 0 rfl ?_
            refine r_iload_n X d_M_expire_44 rfl 2 rfl ?_
            obtain ⟨x28, h27, hf⟩ := obind hf
            obtain ⟨x31, σ30, h29, hf⟩ := pbind hf
            refine r_callV (st := []) X [tI v3] (ci := 11) h27 (Nat.le_of_ble_eq_true rfl) q877 q879 sl21 (c_M_end v0 v3 h29) q880 q11 y_M_end_ok rfl ⟨Nat.le_of_ble_eq_true rfl, Nat.le_of_ble_eq_true rfl⟩ (Nat.le_of_ble_eq_true rfl) ⟨Nat.le_of_ble_eq_true rfl, Nat.le_of_ble_eq_true rfl⟩ d_M_expire_45 ?_
            refine r_aload_n X d_M_expire_48 rfl 0 rfl ?_
            refine r_iload_n X d_M_expire_49 rfl 1 rfl ?_
            obtain ⟨x33, h32, hf⟩ := obind hf
            obtain ⟨x36, σ35, h34, hf⟩ := pbind hf
            refine r_callV (st := [tL x31]) X [tI v2] (ci := 11) h32 (Nat.le_of_ble_eq_true rfl) q877 q879 sl21 (c_M_end v0 v2 h34) q880 q11 y_M_end_ok rfl ⟨Nat.le_of_ble_eq_true rfl, Nat.le_of_ble_eq_true rfl⟩ (Nat.le_of_ble_eq_true rfl) ⟨Nat.le_of_ble_eq_true rfl, Nat.le_of_ble_eq_true rfl⟩ d_M_expire_50 ?_
            refine r_lcmp X d_M_expire_53 ?_
            refine r_if_lt (tgt := 86) X d_M_expire_54 (by decide) (fun hc37 => ?_) (fun hc37 => ?_)
            · have hf := (if_pos hc37).symm.trans hf
              refine r_widen (kc2 := 0) (ks2 := 0) (Nat.le_of_ble_eq_true rfl) (Nat.le_of_ble_eq_true rfl) ?_
              refine r_sub [0, 2] (lv' := [(0, tR v0), (3, tI v3)]) rfl ?_
              exact b_M_expire_86 X hret hlk hnm n rec2 (f_M_expire_10 n rec2 i) hrec2 ih v0 v3 σ35 hf
            · have hf := (if_neg hc37).symm.trans hf
              refine r_aload_n X d_M_expire_57 rfl 0 rfl ?_
              refine r_iload_n X d_M_expire_58 rfl 2 rfl ?_
              obtain ⟨x39, h38, hf⟩ := obind hf
              obtain ⟨x42, σ41, h40, hf⟩ := pbind hf
              refine r_callV (st := []) X [tI v3] (ci := 11) h38 (Nat.le_of_ble_eq_true rfl) q877 q879 sl21 (c_M_end v0 v3 h40) q880 q11 y_M_end_ok rfl ⟨Nat.le_of_ble_eq_true rfl, Nat.le_of_ble_eq_true rfl⟩ (Nat.le_of_ble_eq_true rfl) ⟨Nat.le_of_ble_eq_true rfl, Nat.le_of_ble_eq_true rfl⟩ d_M_expire_59 ?_
              refine r_aload_n X d_M_expire_62 rfl 0 rfl ?_
              refine r_iload_n X d_M_expire_63 rfl 1 rfl ?_
              obtain ⟨x44, h43, hf⟩ := obind hf
              obtain ⟨x47, σ46, h45, hf⟩ := pbind hf
              refine r_callV (st := [tL x42]) X [tI v2] (ci := 11) h43 (Nat.le_of_ble_eq_true rfl) q877 q879 sl21 (c_M_end v0 v2 h45) q880 q11 y_M_end_ok rfl ⟨Nat.le_of_ble_eq_true rfl, Nat.le_of_ble_eq_true rfl⟩ (Nat.le_of_ble_eq_true rfl) ⟨Nat.le_of_ble_eq_true rfl, Nat.le_of_ble_eq_true rfl⟩ d_M_expire_64 ?_
              refine r_lcmp X d_M_expire_67 ?_
              refine r_if_ne (tgt := 88) X d_M_expire_68 (by decide) (fun hc48 => ?_) (fun hc48 => ?_)
              · have hf := (if_neg hc48).symm.trans hf
                refine r_widen (kc2 := 0) (ks2 := 0) (Nat.le_of_ble_eq_true rfl) (Nat.le_of_ble_eq_true rfl) ?_
                refine r_sub [0, 1, 2] (lv' := [(0, tR v0), (2, tI v2), (3, tI v3)]) rfl ?_
                exact b_M_expire_88 X hret hlk hnm n rec2 (f_M_expire_10 n rec2 i) hrec2 ih v0 v2 v3 σ46 hf
              · have hf := (if_pos hc48).symm.trans hf
                refine r_aload_n X d_M_expire_71 rfl 0 rfl ?_
                obtain ⟨x49, h50, hf⟩ := obind hf
                refine r_ld_R (ci := 11) (k := 11) X h50 (Nat.le_of_ble_eq_true rfl) (Nat.le_of_ble_eq_true rfl) rfl rfl q715 d_M_expire_72 ?_
                refine r_iload_n X d_M_expire_75 rfl 2 rfl ?_
                obtain ⟨x51, h52, hf⟩ := obind hf
                refine r_al_I X h52 d_M_expire_76 ?_
                refine r_aload_n X d_M_expire_77 rfl 0 rfl ?_
                obtain ⟨x53, h54, hf⟩ := obind hf
                refine r_ld_R (ci := 11) (k := 11) X h54 (Nat.le_of_ble_eq_true rfl) (Nat.le_of_ble_eq_true rfl) rfl rfl q715 d_M_expire_78 ?_
                refine r_iload_n X d_M_expire_81 rfl 1 rfl ?_
                obtain ⟨x55, h56, hf⟩ := obind hf
                refine r_al_I X h56 d_M_expire_82 ?_
                refine r_icmp_ge (tgt := 88) X d_M_expire_83 (by decide) (fun hc57 => ?_) (fun hc57 => ?_)
                · have hf := (if_pos hc57).symm.trans hf
                  refine r_widen (kc2 := 0) (ks2 := 0) (Nat.le_of_ble_eq_true rfl) (Nat.le_of_ble_eq_true rfl) ?_
                  refine r_sub [0, 1, 2] (lv' := [(0, tR v0), (2, tI v2), (3, tI v3)]) rfl ?_
                  exact b_M_expire_88 X hret hlk hnm n rec2 (f_M_expire_10 n rec2 i) hrec2 ih v0 v2 v3 σ46 hf
                · have hf := (if_neg hc57).symm.trans hf
                  refine r_widen (kc2 := 0) (ks2 := 0) (Nat.le_of_ble_eq_true rfl) (Nat.le_of_ble_eq_true rfl) ?_
                  refine r_sub [0, 2] (lv' := [(0, tR v0), (3, tI v3)]) rfl ?_
                  exact b_M_expire_86 X hret hlk hnm n rec2 (f_M_expire_10 n rec2 i) hrec2 ih v0 v3 σ46 hf
        · have hf := (if_pos hc25).symm.trans hf
          refine r_goto (tgt := 88) X d_M_expire_35 (by decide) ?_
          refine r_widen (kc2 := 0) (ks2 := 0) (Nat.le_of_ble_eq_true rfl) (Nat.le_of_ble_eq_true rfl) ?_
          refine r_sub [0, 1, 2] (lv' := [(0, tR v0), (2, tI v2), (3, tI v3)]) rfl ?_
          exact b_M_expire_88 X hret hlk hnm n rec2 (f_M_expire_10 n rec2 i) hrec2 ih v0 v2 v3 σ23 hf

def f_M_expire_2 (n : Nat)  : Nat → Option Nat → Int32 → Hp → Option Hp
  | 0, _, _, _ => none
  | i + 1, v0, v1, σ =>
    if v1 = 0 then
    (
      some σ)
    else
    (
      f_M_expire_10 n (f_M_expire_2 n i) n v0 ((-1)) 0 σ)
set_option maxRecDepth 100000 in
theorem b_M_expire_2 {p : Program} {l : Launch} {e : Env} {s : State} {m : MethodId} {args : Array Value} {below : List Frame} {meth : Method} {c : Code} {DD : DT} {σ0 σz : Hp} (X : CX p s m args c prog_13_method_22_code 4 (dm σ0) DD y_M_expire.cls) (hret : meth.sig.returnType = none) (hlk : meth.locks = false) (hnm : meth.name = y_M_expire.name) (n : Nat)   : ∀ (i : Nat) (v0 : Option Nat) (v1 : Int32) (σ : Hp) (hf : f_M_expire_2 n  i v0 v1 σ = some σz), GG p l e rm_M_expire s m args below meth c 4 (dm σ0) DD (MQ below (Post DD σ0 none σz) args s rm_M_expire.cells rm_M_expire.slots (dm σ0)) 0 0 σ 2 [(0, tR v0), (1, tI v1)] [] := by
  intro i
  induction i with
  | zero => intro v0 v1 σ hf; cases hf
  | succ i ih =>
    intro v0 v1 σ hf
    simp only [f_M_expire_2] at hf
    refine r_iload_n X d_M_expire_2 rfl 1 rfl ?_
    refine r_if_eq (tgt := 126) X d_M_expire_3 (by decide) (fun hc1 => ?_) (fun hc1 => ?_)
    · have hf := (if_pos hc1).symm.trans hf
      cases hf
      refine r_widen (kc2 := rm_M_expire.cells) (ks2 := rm_M_expire.slots) (Nat.le_of_ble_eq_true rfl) (Nat.le_of_ble_eq_true rfl) ?_
      exact r_vret X hret hlk d_M_expire_126
    · have hf := (if_neg hc1).symm.trans hf
      refine r_iconst (v := -1) X d_M_expire_6 (by decide) ?_
      refine r_istore_n (lv' := [(0, tR v0), (2, tI ((-1)))]) X [1, 0] d_M_expire_7 rfl (Nat.le_of_ble_eq_true rfl) rfl ?_
      refine r_iconst (v := 0) X d_M_expire_8 (by decide) ?_
      refine r_istore_n (lv' := [(0, tR v0), (2, tI ((-1))), (3, tI 0)]) X [1, 2, 0] d_M_expire_9 rfl (Nat.le_of_ble_eq_true rfl) rfl ?_
      refine r_widen (kc2 := 0) (ks2 := 0) (Nat.le_of_ble_eq_true rfl) (Nat.le_of_ble_eq_true rfl) ?_
      refine r_sub [0, 1, 2] (lv' := [(0, tR v0), (2, tI ((-1))), (3, tI 0)]) rfl ?_
      exact b_M_expire_10 X hret hlk hnm n (f_M_expire_2 n i) ih n v0 ((-1)) 0 σ hf

def f_M_expire (n : Nat) (v0 : Option Nat) (σ : Hp) : Option Hp :=
  f_M_expire_2 n  n v0 1 σ
set_option maxRecDepth 100000 in
theorem c_M_expire {l : Launch} {DD : DT} (n : Nat) (v0 : Option Nat) {σ0 σz : Hp} (hf : f_M_expire n v0 σ0 = some σz) : CT l DD y_M_expire prog_13_method_22_code 4 none rm_M_expire [tR v0] σ0 none σz := by
  refine r_met (by decide) (Nat.le_of_ble_eq_true rfl) ?_
  intro p e s m args below meth c X hret hlk hnm
  unfold f_M_expire at hf
  refine r_iconst (v := 1) X d_M_expire_0 (by decide) ?_
  refine r_istore_n (lv' := [(0, tR v0), (1, tI 1)]) X [1, 0] d_M_expire_1 rfl (Nat.le_of_ble_eq_true rfl) rfl ?_
  refine r_widen (kc2 := 0) (ks2 := 0) (Nat.le_of_ble_eq_true rfl) (Nat.le_of_ble_eq_true rfl) ?_
  refine r_sub [0, 1] (lv' := [(0, tR v0), (1, tI 1)]) rfl ?_
  exact b_M_expire_2 X hret hlk hnm n   n v0 1 σ0 hf

def f_M_all (n : Nat) (v0 : Option Nat) (σ : Hp) : Option (Int32 × Hp) :=
  Option.bind (is_O σ v0 11) fun x2 =>
  pb (f_M_weightOf n v0 1 σ) fun x5 σ4 =>
  Option.bind (is_O σ4 v0 11) fun x7 =>
  pb (f_M_weightOf n v0 2 σ4) fun x10 σ9 =>
  Option.bind (is_O σ9 v0 11) fun x12 =>
  pb (f_M_weightOf n v0 3 σ9) fun x15 σ14 =>
  some ((x5 + x10) + x15, σ14)
set_option maxRecDepth 100000 in
theorem c_M_all {l : Launch} {DD : DT} (n : Nat) (v0 : Option Nat) {σ0 σz : Hp} {rz : Int32} (hf : f_M_all n v0 σ0 = some (rz, σz)) : CT l DD y_M_all prog_13_method_12_code 1 (some .int) rm_M_all [tR v0] σ0 (some (tI rz)) σz := by
  refine r_met (by decide) (Nat.le_of_ble_eq_true rfl) ?_
  intro p e s m args below meth c X hret hlk hnm
  unfold f_M_all at hf
  refine r_aload_n X d_M_all_0 rfl 0 rfl ?_
  refine r_iconst (v := 1) X d_M_all_1 (by decide) ?_
  obtain ⟨x2, h1, hf⟩ := obind hf
  obtain ⟨x5, σ4, h3, hf⟩ := pbind hf
  refine r_callV (st := []) X [tI 1] (ci := 11) h1 (Nat.le_of_ble_eq_true rfl) q934 q936 sl33 (c_M_weightOf n v0 1 h3) q937 q11 y_M_weightOf_ok rfl ⟨Nat.le_of_ble_eq_true rfl, Nat.le_of_ble_eq_true rfl⟩ (Nat.le_of_ble_eq_true rfl) ⟨Nat.le_of_ble_eq_true rfl, Nat.le_of_ble_eq_true rfl⟩ d_M_all_2 ?_
  refine r_aload_n X d_M_all_5 rfl 0 rfl ?_
  refine r_iconst (v := 2) X d_M_all_6 (by decide) ?_
  obtain ⟨x7, h6, hf⟩ := obind hf
  obtain ⟨x10, σ9, h8, hf⟩ := pbind hf
  refine r_callV (st := [tI x5]) X [tI 2] (ci := 11) h6 (Nat.le_of_ble_eq_true rfl) q934 q936 sl33 (c_M_weightOf n v0 2 h8) q937 q11 y_M_weightOf_ok rfl ⟨Nat.le_of_ble_eq_true rfl, Nat.le_of_ble_eq_true rfl⟩ (Nat.le_of_ble_eq_true rfl) ⟨Nat.le_of_ble_eq_true rfl, Nat.le_of_ble_eq_true rfl⟩ d_M_all_7 ?_
  refine r_iadd X d_M_all_10 ?_
  refine r_aload_n X d_M_all_11 rfl 0 rfl ?_
  refine r_iconst (v := 3) X d_M_all_12 (by decide) ?_
  obtain ⟨x12, h11, hf⟩ := obind hf
  obtain ⟨x15, σ14, h13, hf⟩ := pbind hf
  refine r_callV (st := [tI (x5 + x10)]) X [tI 3] (ci := 11) h11 (Nat.le_of_ble_eq_true rfl) q934 q936 sl33 (c_M_weightOf n v0 3 h13) q937 q11 y_M_weightOf_ok rfl ⟨Nat.le_of_ble_eq_true rfl, Nat.le_of_ble_eq_true rfl⟩ (Nat.le_of_ble_eq_true rfl) ⟨Nat.le_of_ble_eq_true rfl, Nat.le_of_ble_eq_true rfl⟩ d_M_all_13 ?_
  refine r_iadd X d_M_all_16 ?_
  cases hf
  refine r_widen (kc2 := rm_M_all.cells) (ks2 := rm_M_all.slots) (Nat.le_of_ble_eq_true rfl) (Nat.le_of_ble_eq_true rfl) ?_
  exact r_iret X hret hlk d_M_all_17

