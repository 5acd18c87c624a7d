def f_L_put_20 (n : Nat)  (w0 : Int64) (w1 : Int32) (w2 : Option Nat) (σ : Hp) : Option (Int32 × Hp) :=
  Option.bind (as_L σ 1 w2 w1 w0) fun σ8 =>
  some (0, σ8)
set_option maxRecDepth 100000 in
theorem b_L_put_20 {p : Program} {l : Launch} {e : Env} {s : State} {m : MethodId} {args : Array Value} {below : List Frame} {meth : Method} {c : Code} {DD : DT} {σ0 σz : Hp} {rz : Int32} (X : CX p s m args c method_3_code 7 (dm σ0) DD y_L_put.cls) (hret : meth.sig.returnType = some .int) (hlk : meth.locks = false) (hfl : l.flags = flags0) (hex : c.exceptionTable.toList = tableOf hh_L_put) (n : Nat)   (w0 : Int64) (w1 : Int32) (w2 : Option Nat) (σ : Hp) (hf : f_L_put_20 n  w0 w1 w2 σ = some (rz, σz)) : GG p l e rm_L_put s m args below meth c 7 (dm σ0) DD (MQ below (Post DD σ0 (some (tI rz)) σz) args s rm_L_put.cells rm_L_put.slots (dm σ0)) 1 11 σ 20 [] [tL w0, tI w1, tR w2] := by
  unfold f_L_put_20 at hf
  obtain ⟨σ8, h9, hf⟩ := obind hf
  refine r_as_L X h9 d_L_put_20 ?_
  refine r_goto (tgt := 28) X d_L_put_21 (by decide) ?_
  refine r_iconst (v := 0) X d_L_put_28 (by decide) ?_
  cases hf
  refine r_widen (kc2 := rm_L_put.cells) (ks2 := rm_L_put.slots) (Nat.le_of_ble_eq_true rfl) (Nat.le_of_ble_eq_true rfl) ?_
  exact r_iret X hret hlk d_L_put_29

def f_L_put (n : Nat) (v0 : Option Nat) (v1 : Int32) (v2 : Int32) (v3 : Int32) (v4 : Int32) (v5 : Option Nat) (σ : Hp) : Option (Int32 × Hp) :=
  Option.bind (is_O σ v0 0) fun x2 =>
  pbx (f_W_put n v0 v1 v2 v3 v4 σ) (fun x5 σ4 =>
    if x5 = 0 then
    (
      f_L_put_20 n  0 0 v5 σ4)
    else
    (
      f_L_put_20 n  1 0 v5 σ4)) (fun k6 σ4 =>
      if k6 = 0 then
      (
        some (1, σ4))
      else none)
set_option maxRecDepth 100000 in
theorem c_L_put {l : Launch} (hfl : l.flags = flags0) {DD : DT} (n : Nat) (v0 : Option Nat) (v1 : Int32) (v2 : Int32) (v3 : Int32) (v4 : Int32) (v5 : Option Nat) {σ0 σz : Hp} {rz : Int32} (hf : f_L_put n v0 v1 v2 v3 v4 v5 σ0 = some (rz, σz)) : CW l DD y_L_put method_3_code 7 (some .int) hh_L_put rm_L_put [tR v0, tI v1, tI v2, tI v3, tI v4, tR v5] σ0 (some (tI rz)) σz := by
  refine r_metW (by decide) (Nat.le_of_ble_eq_true rfl) ?_
  intro p e s m args below meth c X hret hlk hex
  unfold f_L_put at hf
  refine r_aload X d_L_put_0 5 rfl ?_
  refine r_iconst (v := 0) X d_L_put_2 (by decide) ?_
  refine r_aload_n X d_L_put_3 rfl 0 rfl ?_
  refine r_iload_n X d_L_put_4 rfl 1 rfl ?_
  refine r_iload_n X d_L_put_5 rfl 2 rfl ?_
  refine r_iload_n X d_L_put_6 rfl 3 rfl ?_
  refine r_iload X d_L_put_7 4 rfl ?_
  obtain ⟨x2, h1, hf⟩ := obind hf
  rcases pbxbind hf with ⟨x5, σ4, h3, hf⟩ | ⟨k6, σ4, h3, hf⟩
  · refine r_callV (st := [tI 0, tR v5]) X [tI v1, tI v2, tI v3, tI v4] (ci := 0) h1 (Nat.le_of_ble_eq_true rfl) q516 q517 q518 (c_W_put n v0 v1 v2 v3 v4 h3) q519 q1 y_W_put_ok rfl ⟨Nat.le_of_ble_eq_true rfl, Nat.le_of_ble_eq_true rfl⟩ (Nat.le_of_ble_eq_true rfl) ⟨Nat.le_of_ble_eq_true rfl, Nat.le_of_ble_eq_true rfl⟩ d_L_put_9 ?_
    refine r_if_eq (tgt := 19) X d_L_put_12 (by decide) (fun hc7 => ?_) (fun hc7 => ?_)
    · have hf := (if_pos hc7).symm.trans hf
      refine r_lconst (v := 0) X d_L_put_19 (by decide) ?_
      refine r_widen (kc2 := 1) (ks2 := 11) (Nat.le_of_ble_eq_true rfl) (Nat.le_of_ble_eq_true rfl) ?_
      refine r_sub [] (lv' := []) rfl ?_
      exact b_L_put_20 X hret hlk hfl hex n   0 0 v5 σ4 hf
    · have hf := (if_neg hc7).symm.trans hf
      refine r_lconst (v := 1) X d_L_put_15 (by decide) ?_
      refine r_goto (tgt := 20) X d_L_put_16 (by decide) ?_
      refine r_widen (kc2 := 1) (ks2 := 11) (Nat.le_of_ble_eq_true rfl) (Nat.le_of_ble_eq_true rfl) ?_
      refine r_sub [] (lv' := []) rfl ?_
      exact b_L_put_20 X hret hlk hfl hex n   1 0 v5 σ4 hf
  · by_cases hc11 : k6 = 0
    · subst hc11
      have hf := (if_pos rfl).symm.trans hf
      refine r_callT (st := [tI 0, tR v5]) X [tI v1, tI v2, tI v3, tI v4] (k := 0) (pre := []) (x := ⟨0, 21, 24, 13⟩) (rest := []) (by decide) (ci := 0) h1 (Nat.le_of_ble_eq_true rfl) q516 q517 q518 (t_W_put hfl n v0 v1 v2 v3 v4 h3) q519 q1 y_W_put_ok rfl ⟨Nat.le_of_ble_eq_true rfl, Nat.le_of_ble_eq_true rfl⟩ (Nat.le_of_ble_eq_true rfl) ⟨Nat.le_of_ble_eq_true rfl, Nat.le_of_ble_eq_true rfl⟩ d_L_put_9 hex (fun z hz => absurd hz List.not_mem_nil) (by decide) (by decide) q515 (fun a10 => ?_)
      refine r_astore (lv' := []) X [] d_L_put_24 (Nat.le_of_ble_eq_true rfl) rfl ?_
      refine r_iconst (v := 1) X d_L_put_26 (by decide) ?_
      cases hf
      refine r_widen (kc2 := rm_L_put.cells) (ks2 := rm_L_put.slots) (Nat.le_of_ble_eq_true rfl) (Nat.le_of_ble_eq_true rfl) ?_
      exact r_iret X hret hlk d_L_put_27
    have hf := (if_neg hc11).symm.trans hf
    cases hf

def f_L_load (v0 : Option Nat) (v1 : Int32) (v2 : Option Nat) (σ : Hp) : Option (Int32 × Hp) :=
  Option.bind (is_O σ v0 0) fun x2 =>
  pbx (f_W_load v0 v1 σ) (fun x5 σ4 =>
    Option.bind (as_L σ4 1 v2 0 (Int32.toInt64 x5)) fun σ7 =>
    some (0, σ7)) (fun k6 σ4 =>
      if k6 = 0 then
      (
        some (1, σ4))
      else if k6 = 1 then
      (
        some (2, σ4))
      else none)
set_option maxRecDepth 100000 in
theorem c_L_load {l : Launch} (hfl : l.flags = flags0) {DD : DT} (v0 : Option Nat) (v1 : Int32) (v2 : Option Nat) {σ0 σz : Hp} {rz : Int32} (hf : f_L_load v0 v1 v2 σ0 = some (rz, σz)) : CW l DD y_L_load method_4_code 4 (some .int) hh_L_load rm_L_load [tR v0, tI v1, tR v2] σ0 (some (tI rz)) σz := by
  refine r_metW (by decide) (Nat.le_of_ble_eq_true rfl) ?_
  intro p e s m args below meth c X hret hlk hex
  unfold f_L_load at hf
  refine r_aload_n X d_L_load_0 rfl 2 rfl ?_
  refine r_iconst (v := 0) X d_L_load_1 (by decide) ?_
  refine r_aload_n X d_L_load_2 rfl 0 rfl ?_
  refine r_iload_n X d_L_load_3 rfl 1 rfl ?_
  obtain ⟨x2, h1, hf⟩ := obind hf
  rcases pbxbind hf with ⟨x5, σ4, h3, hf⟩ | ⟨k6, σ4, h3, hf⟩
  · refine r_callV (st := [tI 0, tR v2]) X [tI v1] (ci := 0) h1 (Nat.le_of_ble_eq_true rfl) q652 q653 q654 (c_W_load v0 v1 h3) q655 q1 y_W_load_ok rfl ⟨Nat.le_of_ble_eq_true rfl, Nat.le_of_ble_eq_true rfl⟩ (Nat.le_of_ble_eq_true rfl) ⟨Nat.le_of_ble_eq_true rfl, Nat.le_of_ble_eq_true rfl⟩ d_L_load_4 ?_
    refine r_i2l X d_L_load_7 ?_
    obtain ⟨σ7, h8, hf⟩ := obind hf
    refine r_as_L X h8 d_L_load_8 ?_
    refine r_goto (tgt := 18) X d_L_load_9 (by decide) ?_
    refine r_iconst (v := 0) X d_L_load_18 (by decide) ?_
    cases hf
    refine r_widen (kc2 := rm_L_load.cells) (ks2 := rm_L_load.slots) (Nat.le_of_ble_eq_true rfl) (Nat.le_of_ble_eq_true rfl) ?_
    exact r_iret X hret hlk d_L_load_19
  · by_cases hc10 : k6 = 0
    · subst hc10
      have hf := (if_pos rfl).symm.trans hf
      refine r_callT (st := [tI 0, tR v2]) X [tI v1] (k := 0) (pre := []) (x := ⟨0, 9, 12, 13⟩) (rest := [⟨0, 9, 15, 19⟩]) (by decide) (ci := 0) h1 (Nat.le_of_ble_eq_true rfl) q652 q653 q654 (t_W_load hfl v0 v1 h3) q655 q1 y_W_load_ok rfl ⟨Nat.le_of_ble_eq_true rfl, Nat.le_of_ble_eq_true rfl⟩ (Nat.le_of_ble_eq_true rfl) ⟨Nat.le_of_ble_eq_true rfl, Nat.le_of_ble_eq_true rfl⟩ d_L_load_4 hex (fun z hz => absurd hz List.not_mem_nil) (by decide) (by decide) q515 (fun a9 => ?_)
      refine r_astore_n (lv' := []) X [] d_L_load_12 rfl (Nat.le_of_ble_eq_true rfl) rfl ?_
      refine r_iconst (v := 1) X d_L_load_13 (by decide) ?_
      cases hf
      refine r_widen (kc2 := rm_L_load.cells) (ks2 := rm_L_load.slots) (Nat.le_of_ble_eq_true rfl) (Nat.le_of_ble_eq_true rfl) ?_
      exact r_iret X hret hlk d_L_load_14
    have hf := (if_neg hc10).symm.trans hf
    by_cases hc12 : k6 = 1
    · subst hc12
      have hf := (if_pos rfl).symm.trans hf
      refine r_callT (st := [tI 0, tR v2]) X [tI v1] (k := 1) (pre := [⟨0, 9, 12, 13⟩]) (x := ⟨0, 9, 15, 19⟩) (rest := []) (by decide) (ci := 0) h1 (Nat.le_of_ble_eq_true rfl) q652 q653 q654 (t_W_load hfl v0 v1 h3) q655 q1 y_W_load_ok rfl ⟨Nat.le_of_ble_eq_true rfl, Nat.le_of_ble_eq_true rfl⟩ (Nat.le_of_ble_eq_true rfl) ⟨Nat.le_of_ble_eq_true rfl, Nat.le_of_ble_eq_true rfl⟩ d_L_load_4 hex (fun z hz => by
        cases List.mem_singleton.mp hz
        exact ⟨by decide, by decide, 0, by decide, by decide, q515⟩) (by decide) (by decide) q651 (fun a11 => ?_)
      refine r_astore_n (lv' := []) X [] d_L_load_15 rfl (Nat.le_of_ble_eq_true rfl) rfl ?_
      refine r_iconst (v := 2) X d_L_load_16 (by decide) ?_
      cases hf
      refine r_widen (kc2 := rm_L_load.cells) (ks2 := rm_L_load.slots) (Nat.le_of_ble_eq_true rfl) (Nat.le_of_ble_eq_true rfl) ?_
      exact r_iret X hret hlk d_L_load_17
    have hf := (if_neg hc12).symm.trans hf
    cases hf

def f_L_finish_18 (n : Nat)  (w0 : Int64) (w1 : Int32) (w2 : Option Nat) (σ : Hp) : Option (Int32 × Hp) :=
  Option.bind (as_L σ 1 w2 w1 w0) fun σ8 =>
  some (0, σ8)
set_option maxRecDepth 100000 in
theorem b_L_finish_18 {p : Program} {l : Launch} {e : Env} {s : State} {m : MethodId} {args : Array Value} {below : List Frame} {meth : Method} {c : Code} {DD : DT} {σ0 σz : Hp} {rz : Int32} (X : CX p s m args c method_5_code 6 (dm σ0) DD y_L_finish.cls) (hret : meth.sig.returnType = some .int) (hlk : meth.locks = false) (hfl : l.flags = flags0) (hex : c.exceptionTable.toList = tableOf hh_L_finish) (n : Nat)   (w0 : Int64) (w1 : Int32) (w2 : Option Nat) (σ : Hp) (hf : f_L_finish_18 n  w0 w1 w2 σ = some (rz, σz)) : GG p l e rm_L_finish s m args below meth c 6 (dm σ0) DD (MQ below (Post DD σ0 (some (tI rz)) σz) args s rm_L_finish.cells rm_L_finish.slots (dm σ0)) 1 11 σ 18 [] [tL w0, tI w1, tR w2] := by
  unfold f_L_finish_18 at hf
  obtain ⟨σ8, h9, hf⟩ := obind hf
  refine r_as_L X h9 d_L_finish_18 ?_
  refine r_goto (tgt := 30) X d_L_finish_19 (by decide) ?_
  refine r_iconst (v := 0) X d_L_finish_30 (by decide) ?_
  cases hf
  refine r_widen (kc2 := rm_L_finish.cells) (ks2 := rm_L_finish.slots) (Nat.le_of_ble_eq_true rfl) (Nat.le_of_ble_eq_true rfl) ?_
  exact r_iret X hret hlk d_L_finish_31

def f_L_finish (n : Nat) (v0 : Option Nat) (v1 : Int32) (v2 : Int32) (v3 : Int32) (v4 : Option Nat) (σ : Hp) : Option (Int32 × Hp) :=
  Option.bind (is_O σ v0 0) fun x2 =>
  pbx (f_W_finish n v0 v1 v2 v3 σ) (fun x5 σ4 =>
    if x5 = 0 then
    (
      f_L_finish_18 n  0 0 v4 σ4)
    else
    (
      f_L_finish_18 n  1 0 v4 σ4)) (fun k6 σ4 =>
      if k6 = 0 then
      (
        some (2, σ4))
      else if k6 = 1 then
      (
        some (1, σ4))
      else none)
set_option maxRecDepth 100000 in
theorem c_L_finish {l : Launch} (hfl : l.flags = flags0) {DD : DT} (n : Nat) (v0 : Option Nat) (v1 : Int32) (v2 : Int32) (v3 : Int32) (v4 : Option Nat) {σ0 σz : Hp} {rz : Int32} (hf : f_L_finish n v0 v1 v2 v3 v4 σ0 = some (rz, σz)) : CW l DD y_L_finish method_5_code 6 (some .int) hh_L_finish rm_L_finish [tR v0, tI v1, tI v2, tI v3, tR v4] σ0 (some (tI rz)) σz := by
  refine r_metW (by decide) (Nat.le_of_ble_eq_true rfl) ?_
  intro p e s m args below meth c X hret hlk hex
  unfold f_L_finish at hf
  refine r_aload X d_L_finish_0 4 rfl ?_
  refine r_iconst (v := 0) X d_L_finish_2 (by decide) ?_
  refine r_aload_n X d_L_finish_3 rfl 0 rfl ?_
  refine r_iload_n X d_L_finish_4 rfl 1 rfl ?_
  refine r_iload_n X d_L_finish_5 rfl 2 rfl ?_
  refine r_iload_n X d_L_finish_6 rfl 3 rfl ?_
  obtain ⟨x2, h1, hf⟩ := obind hf
  rcases pbxbind hf with ⟨x5, σ4, h3, hf⟩ | ⟨k6, σ4, h3, hf⟩
  · refine r_callV (st := [tI 0, tR v4]) X [tI v1, tI v2, tI v3] (ci := 0) h1 (Nat.le_of_ble_eq_true rfl) q674 q675 q676 (c_W_finish n v0 v1 v2 v3 h3) q677 q1 y_W_finish_ok rfl ⟨Nat.le_of_ble_eq_true rfl, Nat.le_of_ble_eq_true rfl⟩ (Nat.le_of_ble_eq_true rfl) ⟨Nat.le_of_ble_eq_true rfl, Nat.le_of_ble_eq_true rfl⟩ d_L_finish_7 ?_
    refine r_if_eq (tgt := 17) X d_L_finish_10 (by decide) (fun hc7 => ?_) (fun hc7 => ?_)
    · have hf := (if_pos hc7).symm.trans hf
      refine r_lconst (v := 0) X d_L_finish_17 (by decide) ?_
      refine r_widen (kc2 := 1) (ks2 := 11) (Nat.le_of_ble_eq_true rfl) (Nat.le_of_ble_eq_true rfl) ?_
      refine r_sub [] (lv' := []) rfl ?_
      exact b_L_finish_18 X hret hlk hfl hex n   0 0 v4 σ4 hf
    · have hf := (if_neg hc7).symm.trans hf
      refine r_lconst (v := 1) X d_L_finish_13 (by decide) ?_
      refine r_goto (tgt := 18) X d_L_finish_14 (by decide) ?_
      refine r_widen (kc2 := 1) (ks2 := 11) (Nat.le_of_ble_eq_true rfl) (Nat.le_of_ble_eq_true rfl) ?_
      refine r_sub [] (lv' := []) rfl ?_
      exact b_L_finish_18 X hret hlk hfl hex n   1 0 v4 σ4 hf
  · by_cases hc11 : k6 = 0
    · subst hc11
      have hf := (if_pos rfl).symm.trans hf
      refine r_callT (st := [tI 0, tR v4]) X [tI v1, tI v2, tI v3] (k := 0) (pre := [⟨0, 19, 22, 19⟩]) (x := ⟨0, 19, 26, 13⟩) (rest := []) (by decide) (ci := 0) h1 (Nat.le_of_ble_eq_true rfl) q674 q675 q676 (t_W_finish hfl n v0 v1 v2 v3 h3) q677 q1 y_W_finish_ok rfl ⟨Nat.le_of_ble_eq_true rfl, Nat.le_of_ble_eq_true rfl⟩ (Nat.le_of_ble_eq_true rfl) ⟨Nat.le_of_ble_eq_true rfl, Nat.le_of_ble_eq_true rfl⟩ d_L_finish_7 hex (fun z hz => by
        cases List.mem_singleton.mp hz
        exact ⟨by decide, by decide, 1, by decide, by decide, q651⟩) (by decide) (by decide) q515 (fun a10 => ?_)
      refine r_astore (lv' := []) X [] d_L_finish_26 (Nat.le_of_ble_eq_true rfl) rfl ?_
      refine r_iconst (v := 2) X d_L_finish_28 (by decide) ?_
      cases hf
      refine r_widen (kc2 := rm_L_finish.cells) (ks2 := rm_L_finish.slots) (Nat.le_of_ble_eq_true rfl) (Nat.le_of_ble_eq_true rfl) ?_
      exact r_iret X hret hlk d_L_finish_29
    have hf := (if_neg hc11).symm.trans hf
    by_cases hc13 : k6 = 1
    · subst hc13
      have hf := (if_pos rfl).symm.trans hf
      refine r_callT (st := [tI 0, tR v4]) X [tI v1, tI v2, tI v3] (k := 1) (pre := []) (x := ⟨0, 19, 22, 19⟩) (rest := [⟨0, 19, 26, 13⟩]) (by decide) (ci := 0) h1 (Nat.le_of_ble_eq_true rfl) q674 q675 q676 (t_W_finish hfl n v0 v1 v2 v3 h3) q677 q1 y_W_finish_ok rfl ⟨Nat.le_of_ble_eq_true rfl, Nat.le_of_ble_eq_true rfl⟩ (Nat.le_of_ble_eq_true rfl) ⟨Nat.le_of_ble_eq_true rfl, Nat.le_of_ble_eq_true rfl⟩ d_L_finish_7 hex (fun z hz => absurd hz List.not_mem_nil) (by decide) (by decide) q651 (fun a12 => ?_)
      refine r_astore (lv' := []) X [] d_L_finish_22 (Nat.le_of_ble_eq_true rfl) rfl ?_
      refine r_iconst (v := 1) X d_L_finish_24 (by decide) ?_
      cases hf
      refine r_widen (kc2 := rm_L_finish.cells) (ks2 := rm_L_finish.slots) (Nat.le_of_ble_eq_true rfl) (Nat.le_of_ble_eq_true rfl) ?_
      exact r_iret X hret hlk d_L_finish_25
    have hf := (if_neg hc13).symm.trans hf
    cases hf

def f_L_fail (v0 : Option Nat) (v1 : Int32) (σ : Hp) : Option (Int32 × Hp) :=
  Option.bind (is_O σ v0 0) fun x2 =>
  pbx (f_W_fail v0 v1 σ) (fun x5 σ4 =>
    some (0, σ4)) (fun k6 σ4 =>
      if k6 = 1 then
      (
        some (1, σ4))
      else none)
set_option maxRecDepth 100000 in
theorem c_L_fail {l : Launch} (hfl : l.flags = flags0) {DD : DT} (v0 : Option Nat) (v1 : Int32) {σ0 σz : Hp} {rz : Int32} (hf : f_L_fail v0 v1 σ0 = some (rz, σz)) : CW l DD y_L_fail method_6_code 3 (some .int) hh_L_fail rm_L_fail [tR v0, tI v1] σ0 (some (tI rz)) σz := by
  refine r_metW (by decide) (Nat.le_of_ble_eq_true rfl) ?_
  intro p e s m args below meth c X hret hlk hex
  unfold f_L_fail at hf
  refine r_aload_n X d_L_fail_0 rfl 0 rfl ?_
  refine r_iload_n X d_L_fail_1 rfl 1 rfl ?_
  obtain ⟨x2, h1, hf⟩ := obind hf
  rcases pbxbind hf with ⟨x5, σ4, h3, hf⟩ | ⟨k6, σ4, h3, hf⟩
  · refine r_callV (st := []) X [tI v1] (ci := 0) h1 (Nat.le_of_ble_eq_true rfl) q685 q686 q687 (c_W_fail v0 v1 h3) q688 q1 y_W_fail_ok rfl ⟨Nat.le_of_ble_eq_true rfl, Nat.le_of_ble_eq_true rfl⟩ (Nat.le_of_ble_eq_true rfl) ⟨Nat.le_of_ble_eq_true rfl, Nat.le_of_ble_eq_true rfl⟩ d_L_fail_2 ?_
    refine r_goto (tgt := 11) X d_L_fail_5 (by decide) ?_
    refine r_iconst (v := 0) X d_L_fail_11 (by decide) ?_
    cases hf
    refine r_widen (kc2 := rm_L_fail.cells) (ks2 := rm_L_fail.slots) (Nat.le_of_ble_eq_true rfl) (Nat.le_of_ble_eq_true rfl) ?_
    exact r_iret X hret hlk d_L_fail_12
  · by_cases hc8 : k6 = 1
    · subst hc8
      have hf := (if_pos rfl).symm.trans hf
      refine r_callT (st := []) X [tI v1] (k := 1) (pre := []) (x := ⟨0, 5, 8, 19⟩) (rest := []) (by decide) (ci := 0) h1 (Nat.le_of_ble_eq_true rfl) q685 q686 q687 (t_W_fail hfl v0 v1 h3) q688 q1 y_W_fail_ok rfl ⟨Nat.le_of_ble_eq_true rfl, Nat.le_of_ble_eq_true rfl⟩ (Nat.le_of_ble_eq_true rfl) ⟨Nat.le_of_ble_eq_true rfl, Nat.le_of_ble_eq_true rfl⟩ d_L_fail_2 hex (fun z hz => absurd hz List.not_mem_nil) (by decide) (by decide) q651 (fun a7 => ?_)
      refine r_astore_n (lv' := []) X [] d_L_fail_8 rfl (Nat.le_of_ble_eq_true rfl) rfl ?_
      refine r_iconst (v := 1) X d_L_fail_9 (by decide) ?_
      cases hf
      refine r_widen (kc2 := rm_L_fail.cells) (ks2 := rm_L_fail.slots) (Nat.le_of_ble_eq_true rfl) (Nat.le_of_ble_eq_true rfl) ?_
      exact r_iret X hret hlk d_L_fail_10
    have hf := (if_neg hc8).symm.trans hf
    cases hf

