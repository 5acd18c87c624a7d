def f_M_nextCandidate_54 (n : Nat) (rec4 : Option Nat → Int32 → Int32 → Hp → Option (Int32 × Hp)) (v0 : Option Nat) (v1 : Int32) (v2 : Int32) (σ : Hp) : Option (Int32 × Hp) :=
  rec4 v0 v1 (v2 + 1) σ
set_option maxRecDepth 100000 in
theorem b_M_nextCandidate_54 {p : Program} {l : Launch} {e : Env} {s : State} {m : MethodId} {args : Array Value} {below : List Frame} {meth : Method} {c : Code} {DD : DT} {σ0 σz : Hp} {rz : Int32} (X : CX p s m args c prog_13_method_24_code 3 (dm σ0) DD y_M_nextCandidate.cls) (hret : meth.sig.returnType = some .int) (hlk : meth.locks = false) (hnm : meth.name = y_M_nextCandidate.name) (n : Nat) (rec4 : Option Nat → Int32 → Int32 → Hp → Option (Int32 × Hp)) (hrec4 : ∀ (v0 : Option Nat) (v1 : Int32) (v2 : Int32) (σ : Hp), rec4 v0 v1 v2 σ = some (rz, σz) → GG p l e rm_M_nextCandidate s m args below meth c 3 (dm σ0) DD (MQ below (Post DD σ0 (some (tI rz)) σz) args s rm_M_nextCandidate.cells rm_M_nextCandidate.slots (dm σ0)) 0 0 σ 4 [(0, tR v0), (1, tI v1), (2, tI v2)] []) (v0 : Option Nat) (v1 : Int32) (v2 : Int32) (σ : Hp) (hf : f_M_nextCandidate_54 n rec4 v0 v1 v2 σ = some (rz, σz)) : GG p l e rm_M_nextCandidate s m args below meth c 3 (dm σ0) DD (MQ below (Post DD σ0 (some (tI rz)) σz) args s rm_M_nextCandidate.cells rm_M_nextCandidate.slots (dm σ0)) 0 0 σ 54 [(0, tR v0), (1, tI v1), (2, tI v2)] [] := by
  unfold f_M_nextCandidate_54 at hf
  refine r_iinc (lv' := [(0, tR v0), (1, tI v1), (2, tI (v2 + 1))]) (j := 2) X [1, 2, 0] d_M_nextCandidate_54 rfl rfl (Nat.le_of_ble_eq_true rfl) rfl ?_
  refine r_goto (tgt := 4) X d_M_nextCandidate_57 (by decide) ?_
  refine r_widen (kc2 := 0) (ks2 := 0) (Nat.le_of_ble_eq_true rfl) (Nat.le_of_ble_eq_true rfl) ?_
  refine r_sub [0, 1, 2] (lv' := [(0, tR v0), (1, tI v1), (2, tI (v2 + 1))]) rfl ?_
  exact hrec4 v0 v1 (v2 + 1) σ hf

def f_M_nextCandidate_52 (n : Nat) (rec4 : Option Nat → Int32 → Int32 → Hp → Option (Int32 × Hp)) (v0 : Option Nat) (v2 : Int32) (σ : Hp) : Option (Int32 × Hp) :=
  f_M_nextCandidate_54 n rec4 v0 v2 v2 σ
set_option maxRecDepth 100000 in
theorem b_M_nextCandidate_52 {p : Program} {l : Launch} {e : Env} {s : State} {m : MethodId} {args : Array Value} {below : List Frame} {meth : Method} {c : Code} {DD : DT} {σ0 σz : Hp} {rz : Int32} (X : CX p s m args c prog_13_method_24_code 3 (dm σ0) DD y_M_nextCandidate.cls) (hret : meth.sig.returnType = some .int) (hlk : meth.locks = false) (hnm : meth.name = y_M_nextCandidate.name) (n : Nat) (rec4 : Option Nat → Int32 → Int32 → Hp → Option (Int32 × Hp)) (hrec4 : ∀ (v0 : Option Nat) (v1 : Int32) (v2 : Int32) (σ : Hp), rec4 v0 v1 v2 σ = some (rz, σz) → GG p l e rm_M_nextCandidate s m args below meth c 3 (dm σ0) DD (MQ below (Post DD σ0 (some (tI rz)) σz) args s rm_M_nextCandidate.cells rm_M_nextCandidate.slots (dm σ0)) 0 0 σ 4 [(0, tR v0), (1, tI v1), (2, tI v2)] []) (v0 : Option Nat) (v2 : Int32) (σ : Hp) (hf : f_M_nextCandidate_52 n rec4 v0 v2 σ = some (rz, σz)) : GG p l e rm_M_nextCandidate s m args below meth c 3 (dm σ0) DD (MQ below (Post DD σ0 (some (tI rz)) σz) args s rm_M_nextCandidate.cells rm_M_nextCandidate.slots (dm σ0)) 0 0 σ 52 [(0, tR v0), (2, tI v2)] [] := by
  unfold f_M_nextCandidate_52 at hf
  refine r_iload_n X d_M_nextCandidate_52 rfl 1 rfl ?_
  refine r_istore_n (lv' := [(0, tR v0), (1, tI v2), (2, tI v2)]) X [1, 0, 2] d_M_nextCandidate_53 rfl (Nat.le_of_ble_eq_true rfl) rfl ?_
  refine r_widen (kc2 := 0) (ks2 := 0) (Nat.le_of_ble_eq_true rfl) (Nat.le_of_ble_eq_true rfl) ?_
  refine r_sub [0, 1, 2] (lv' := [(0, tR v0), (1, tI v2), (2, tI v2)]) rfl ?_
  exact b_M_nextCandidate_54 X hret hlk hnm n rec4 hrec4 v0 v2 v2 σ hf

def f_M_nextCandidate_4 (n : Nat)  : Nat → Option Nat → Int32 → Int32 → Hp → Option (Int32 × Hp)
  | 0, _, _, _, _ => none
  | i + 1, v0, v1, v2, σ =>
    Option.bind (ld_I σ v0 11 10) fun x1 =>
    if x1 ≤ v2 then
    (
      some (v1, σ))
    else
    (
      Option.bind (ld_R σ v0 11 21) fun x4 =>
      Option.bind (al_I σ 2 x4 v2) fun x6 =>
      if x6 = 0 then
      (
        f_M_nextCandidate_54 n (f_M_nextCandidate_4 n i) v0 v1 v2 σ)
      else
      (
        Option.bind (ld_R σ v0 11 15) fun x9 =>
        Option.bind (al_I σ 0 x9 v2) fun x11 =>
        if x11 = 2 then
        (
          if v1 = ((-1)) then
          (
            f_M_nextCandidate_52 n (f_M_nextCandidate_4 n i) v0 v2 σ)
          else
          (
            Option.bind (ld_R σ v0 11 19) fun x15 =>
            Option.bind (al_L σ 1 x15 v2) fun x17 =>
            Option.bind (ld_R σ v0 11 19) fun x19 =>
            Option.bind (al_L σ 1 x19 v1) fun x21 =>
            if 0 ≤ (lg_cmp x17 x21) then
            (
              f_M_nextCandidate_54 n (f_M_nextCandidate_4 n i) v0 v1 v2 σ)
            else
            (
              f_M_nextCandidate_52 n (f_M_nextCandidate_4 n i) v0 v2 σ)))
        else
        (
          f_M_nextCandidate_54 n (f_M_nextCandidate_4 n i) v0 v1 v2 σ)))
set_option maxRecDepth 100000 in
theorem b_M_nextCandidate_4 {p : Program} {l : Launch} {e : Env} {s : State} {m : MethodId} {args : Array Value} {below : List Frame} {meth : Method} {c : Code} {DD : DT} {σ0 σz : Hp} {rz : Int32} (X : CX p s m args c prog_13_method_24_code 3 (dm σ0) DD y_M_nextCandidate.cls) (hret : meth.sig.returnType = some .int) (hlk : meth.locks = false) (hnm : meth.name = y_M_nextCandidate.name) (n : Nat)   : ∀ (i : Nat) (v0 : Option Nat) (v1 : Int32) (v2 : Int32) (σ : Hp) (hf : f_M_nextCandidate_4 n  i v0 v1 v2 σ = some (rz, σz)), GG p l e rm_M_nextCandidate s m args below meth c 3 (dm σ0) DD (MQ below (Post DD σ0 (some (tI rz)) σz) args s rm_M_nextCandidate.cells rm_M_nextCandidate.slots (dm σ0)) 0 0 σ 4 [(0, tR v0), (1, tI v1), (2, tI v2)] [] := by
  intro i
  induction i with
  | zero => intro v0 v1 v2 σ hf; cases hf
  | succ i ih =>
    intro v0 v1 v2 σ hf
    simp only [f_M_nextCandidate_4] at hf
    refine r_iload_n X d_M_nextCandidate_4 rfl 2 rfl ?_
    refine r_aload_n X d_M_nextCandidate_5 rfl 0 rfl ?_
    obtain ⟨x1, h2, hf⟩ := obind hf
    refine r_ld_I (ci := 11) (k := 10) X h2 (Nat.le_of_ble_eq_true rfl) (Nat.le_of_ble_eq_true rfl) (Or.inl rfl) rfl q714 d_M_nextCandidate_6 ?_
    refine r_icmp_ge (tgt := 60) X d_M_nextCandidate_9 (by decide) (fun hc3 => ?_) (fun hc3 => ?_)
    · have hf := (if_pos hc3).symm.trans hf
      refine r_iload_n X d_M_nextCandidate_60 rfl 1 rfl ?_
      cases hf
      refine r_widen (kc2 := rm_M_nextCandidate.cells) (ks2 := rm_M_nextCandidate.slots) (Nat.le_of_ble_eq_true rfl) (Nat.le_of_ble_eq_true rfl) ?_
      exact r_iret X hret hlk d_M_nextCandidate_61
    · have hf := (if_neg hc3).symm.trans hf
      refine r_aload_n X d_M_nextCandidate_12 rfl 0 rfl ?_
      obtain ⟨x4, h5, hf⟩ := obind hf
      refine r_ld_R (ci := 11) (k := 21) X h5 (Nat.le_of_ble_eq_true rfl) (Nat.le_of_ble_eq_true rfl) rfl rfl q725 d_M_nextCandidate_13 ?_
      refine r_iload_n X d_M_nextCandidate_16 rfl 2 rfl ?_
      obtain ⟨x6, h7, hf⟩ := obind hf
      refine r_al_Z X h7 d_M_nextCandidate_17 ?_
      refine r_if_eq (tgt := 54) X d_M_nextCandidate_18 (by decide) (fun hc8 => ?_) (fun hc8 => ?_)
      · have hf := (if_pos hc8).symm.trans hf
        refine r_widen (kc2 := 0) (ks2 := 0) (Nat.le_of_ble_eq_true rfl) (Nat.le_of_ble_eq_true rfl) ?_
        refine r_sub [0, 1, 2] (lv' := [(0, tR v0), (1, tI v1), (2, tI v2)]) rfl ?_
        exact b_M_nextCandidate_54 X hret hlk hnm n (f_M_nextCandidate_4 n i) ih v0 v1 v2 σ hf
      · have hf := (if_neg hc8).symm.trans hf
        refine r_aload_n X d_M_nextCandidate_21 rfl 0 rfl ?_
        obtain ⟨x9, h10, hf⟩ := obind hf
        refine r_ld_R (ci := 11) (k := 15) X h10 (Nat.le_of_ble_eq_true rfl) (Nat.le_of_ble_eq_true rfl) rfl rfl q719 d_M_nextCandidate_22 ?_
        refine r_iload_n X d_M_nextCandidate_25 rfl 2 rfl ?_
        obtain ⟨x11, h12, hf⟩ := obind hf
        refine r_al_I X h12 d_M_nextCandidate_26 ?_
        refine r_iconst (v := 2) X d_M_nextCandidate_27 (by decide) ?_
        refine r_icmp_ne (tgt := 54) X d_M_nextCandidate_28 (by decide) (fun hc13 => ?_) (fun hc13 => ?_)
        · have hf := (if_neg hc13).symm.trans hf
          refine r_widen (kc2 := 0) (ks2 := 0) (Nat.le_of_ble_eq_true rfl) (Nat.le_of_ble_eq_true rfl) ?_
          refine r_sub [0, 1, 2] (lv' := [(0, tR v0), (1, tI v1), (2, tI v2)]) rfl ?_
          exact b_M_nextCandidate_54 X hret hlk hnm n (f_M_nextCandidate_4 n i) ih v0 v1 v2 σ hf
        · have hf := (if_pos hc13).symm.trans hf
          refine r_iload_n X d_M_nextCandidate_31 rfl 1 rfl ?_
          refine r_iconst (v := -1) X d_M_nextCandidate_32 (by decide) ?_
          refine r_icmp_eq (tgt := 52) X d_M_nextCandidate_33 (by decide) (fun hc14 => ?_) (fun hc14 => ?_)
          · have hf := (if_pos hc14).symm.trans hf
            refine r_widen (kc2 := 0) (ks2 := 0) (Nat.le_of_ble_eq_true rfl) (Nat.le_of_ble_eq_true rfl) ?_
            refine r_sub [0, 2] (lv' := [(0, tR v0), (2, tI v2)]) rfl ?_
            exact b_M_nextCandidate_52 X hret hlk hnm n (f_M_nextCandidate_4 n i) ih v0 v2 σ hf
          · have hf := (if_neg hc14).symm.trans hf
            refine r_aload_n X d_M_nextCandidate_36 rfl 0 rfl ?_
            obtain ⟨x15, h16, hf⟩ := obind hf
            refine r_ld_R (ci := 11) (k := 19) X h16 (Nat.le_of_ble_eq_true rfl) (Nat.le_of_ble_eq_true rfl) rfl rfl q723 d_M_nextCandidate_37 ?_
            refine r_iload_n X d_M_nextCandidate_40 rfl 2 rfl ?_
            obtain ⟨x17, h18, hf⟩ := obind hf
            refine r_al_L X h18 d_M_nextCandidate_41 ?_
            refine r_aload_n X d_M_nextCandidate_42 rfl 0 rfl ?_
            obtain ⟨x19, h20, hf⟩ := obind hf
            refine r_ld_R (ci := 11) (k := 19) X h20 (Nat.le_of_ble_eq_true rfl) (Nat.le_of_ble_eq_true rfl) rfl rfl q723 d_M_nextCandidate_43 ?_
            refine r_iload_n X d_M_nextCandidate_46 rfl 1 rfl ?_
            obtain ⟨x21, h22, hf⟩ := obind hf
            refine r_al_L X h22 d_M_nextCandidate_47 ?_
            refine r_lcmp X d_M_nextCandidate_48 ?_
            refine r_if_ge (tgt := 54) X d_M_nextCandidate_49 (by decide) (fun hc23 => ?_) (fun hc23 => ?_)
            · have hf := (if_pos hc23).symm.trans hf
              refine r_widen (kc2 := 0) (ks2 := 0) (Nat.le_of_ble_eq_true rfl) (Nat.le_of_ble_eq_true rfl) ?_
              refine r_sub [0, 1, 2] (lv' := [(0, tR v0), (1, tI v1), (2, tI v2)]) rfl ?_
              exact b_M_nextCandidate_54 X hret hlk hnm n (f_M_nextCandidate_4 n i) ih v0 v1 v2 σ hf
            · have hf := (if_neg hc23).symm.trans hf
              refine r_widen (kc2 := 0) (ks2 := 0) (Nat.le_of_ble_eq_true rfl) (Nat.le_of_ble_eq_true rfl) ?_
              refine r_sub [0, 2] (lv' := [(0, tR v0), (2, tI v2)]) rfl ?_
              exact b_M_nextCandidate_52 X hret hlk hnm n (f_M_nextCandidate_4 n i) ih v0 v2 σ hf

def f_M_nextCandidate (n : Nat) (v0 : Option Nat) (σ : Hp) : Option (Int32 × Hp) :=
  f_M_nextCandidate_4 n  n v0 ((-1)) 0 σ
set_option maxRecDepth 100000 in
theorem c_M_nextCandidate {l : Launch} {DD : DT} (n : Nat) (v0 : Option Nat) {σ0 σz : Hp} {rz : Int32} (hf : f_M_nextCandidate n v0 σ0 = some (rz, σz)) : CT l DD y_M_nextCandidate prog_13_method_24_code 3 (some .int) rm_M_nextCandidate [tR v0] σ0 (some (tI rz)) σz := by
  refine r_met (by decide) (Nat.le_of_ble_eq_true rfl) ?_
  intro p e s m args below meth c X hret hlk hnm
  unfold f_M_nextCandidate at hf
  refine r_iconst (v := -1) X d_M_nextCandidate_0 (by decide) ?_
  refine r_istore_n (lv' := [(0, tR v0), (1, tI ((-1)))]) X [1, 0] d_M_nextCandidate_1 rfl (Nat.le_of_ble_eq_true rfl) rfl ?_
  refine r_iconst (v := 0) X d_M_nextCandidate_2 (by decide) ?_
  refine r_istore_n (lv' := [(0, tR v0), (1, tI ((-1))), (2, tI 0)]) X [1, 2, 0] d_M_nextCandidate_3 rfl (Nat.le_of_ble_eq_true rfl) rfl ?_
  refine r_widen (kc2 := 0) (ks2 := 0) (Nat.le_of_ble_eq_true rfl) (Nat.le_of_ble_eq_true rfl) ?_
  refine r_sub [0, 1, 2] (lv' := [(0, tR v0), (1, tI ((-1))), (2, tI 0)]) rfl ?_
  exact b_M_nextCandidate_4 X hret hlk hnm n   n v0 ((-1)) 0 σ0 hf

def f_M_often0_40 (n : Nat) (rec5 : Option Nat → Int32 → Int32 → Int32 → Hp → Option (Int32 × Hp)) (v0 : Option Nat) (v1 : Int32) (v3 : Int32) (w0 : Int32) (σ : Hp) : Option (Int32 × Hp) :=
  rec5 v0 v1 w0 (v3 + 1) σ
set_option maxRecDepth 100000 in
theorem b_M_often0_40 {p : Program} {l : Launch} {e : Env} {s : State} {m : MethodId} {args : Array Value} {below : List Frame} {meth : Method} {c : Code} {DD : DT} {σ0 σz : Hp} {rz : Int32} (X : CX p s m args c prog_13_method_9_code 4 (dm σ0) DD y_M_often0.cls) (hret : meth.sig.returnType = some .int) (hlk : meth.locks = false) (hnm : meth.name = y_M_often0.name) (n : Nat) (rec5 : Option Nat → Int32 → Int32 → Int32 → Hp → Option (Int32 × Hp)) (hrec5 : ∀ (v0 : Option Nat) (v1 : Int32) (v2 : Int32) (v3 : Int32) (σ : Hp), rec5 v0 v1 v2 v3 σ = some (rz, σz) → GG p l e rm_M_often0 s m args below meth c 4 (dm σ0) DD (MQ below (Post DD σ0 (some (tI rz)) σz) args s rm_M_often0.cells rm_M_often0.slots (dm σ0)) 0 0 σ 5 [(0, tR v0), (1, tI v1), (2, tI v2), (3, tI v3)] []) (v0 : Option Nat) (v1 : Int32) (v3 : Int32) (w0 : Int32) (σ : Hp) (hf : f_M_often0_40 n rec5 v0 v1 v3 w0 σ = some (rz, σz)) : GG p l e rm_M_often0 s m args below meth c 4 (dm σ0) DD (MQ below (Post DD σ0 (some (tI rz)) σz) args s rm_M_often0.cells rm_M_often0.slots (dm σ0)) 0 0 σ 40 [(0, tR v0), (1, tI v1), (3, tI v3)] [tI w0] := by
  unfold f_M_often0_40 at hf
  refine r_istore_n (lv' := [(0, tR v0), (1, tI v1), (2, tI w0), (3, tI v3)]) X [1, 2, 0, 3] d_M_often0_40 rfl (Nat.le_of_ble_eq_true rfl) rfl ?_
  refine r_iinc (lv' := [(0, tR v0), (1, tI v1), (2, tI w0), (3, tI (v3 + 1))]) (j := 3) X [1, 2, 3, 0] d_M_often0_41 rfl rfl (Nat.le_of_ble_eq_true rfl) rfl ?_
  refine r_goto (tgt := 5) X d_M_often0_44 (by decide) ?_
  refine r_widen (kc2 := 0) (ks2 := 0) (Nat.le_of_ble_eq_true rfl) (Nat.le_of_ble_eq_true rfl) ?_
  refine r_sub [0, 1, 2, 3] (lv' := [(0, tR v0), (1, tI v1), (2, tI w0), (3, tI (v3 + 1))]) rfl ?_
  exact hrec5 v0 v1 w0 (v3 + 1) σ hf

def f_M_often0_5 (n : Nat)  : Nat → Option Nat → Int32 → Int32 → Int32 → Hp → Option (Int32 × Hp)
  | 0, _, _, _, _, _ => none
  | i + 1, v0, v1, v2, v3, σ =>
    if 4 ≤ v3 then
    (
      some (v2, σ))
    else
    (
      Option.bind (ld_R σ v0 11 30) fun x2 =>
      Option.bind (is_O σ v0 11) fun x5 =>
      pb (f_M_place v0 v3 v1 σ) fun x8 σ7 =>
      Option.bind (al_I σ7 0 x2 x8) fun x9 =>
      if v2 ≤ x9 then
      (
        f_M_often0_40 n (f_M_often0_5 n i) v0 v1 v3 v2 σ7)
      else
      (
        Option.bind (ld_R σ7 v0 11 30) fun x12 =>
        Option.bind (is_O σ7 v0 11) fun x15 =>
        pb (f_M_place v0 v3 v1 σ7) fun x18 σ17 =>
        Option.bind (al_I σ17 0 x12 x18) fun x19 =>
        f_M_often0_40 n (f_M_often0_5 n i) v0 v1 v3 x19 σ17))
set_option maxRecDepth 100000 in
theorem b_M_often0_5 {p : Program} {l : Launch} {e : Env} {s : State} {m : MethodId} {args : Array Value} {below : List Frame} {meth : Method} {c : Code} {DD : DT} {σ0 σz : Hp} {rz : Int32} (X : CX p s m args c prog_13_method_9_code 4 (dm σ0) DD y_M_often0.cls) (hret : meth.sig.returnType = some .int) (hlk : meth.locks = false) (hnm : meth.name = y_M_often0.name) (n : Nat)   : ∀ (i : Nat) (v0 : Option Nat) (v1 : Int32) (v2 : Int32) (v3 : Int32) (σ : Hp) (hf : f_M_often0_5 n  i v0 v1 v2 v3 σ = some (rz, σz)), GG p l e rm_M_often0 s m args below meth c 4 (dm σ0) DD (MQ below (Post DD σ0 (some (tI rz)) σz) args s rm_M_often0.cells rm_M_often0.slots (dm σ0)) 0 0 σ 5 [(0, tR v0), (1, tI v1), (2, tI v2), (3, tI v3)] [] := by
  intro i
  induction i with
  | zero => intro v0 v1 v2 v3 σ hf; cases hf
  | succ i ih =>
    intro v0 v1 v2 v3 σ hf
    simp only [f_M_often0_5] at hf
    refine r_iload_n X d_M_often0_5 rfl 3 rfl ?_
    refine r_iconst (v := 4) X d_M_often0_6 (by decide) ?_
    refine r_icmp_ge (tgt := 47) X d_M_often0_7 (by decide) (fun hc1 => ?_) (fun hc1 => ?_)
    · have hf := (if_pos hc1).symm.trans hf
      refine r_iload_n X d_M_often0_47 rfl 2 rfl ?_
      cases hf
      refine r_widen (kc2 := rm_M_often0.cells) (ks2 := rm_M_often0.slots) (Nat.le_of_ble_eq_true rfl) (Nat.le_of_ble_eq_true rfl) ?_
      exact r_iret X hret hlk d_M_often0_48
    · have hf := (if_neg hc1).symm.trans hf
      refine r_aload_n X d_M_often0_10 rfl 0 rfl ?_
      obtain ⟨x2, h3, hf⟩ := obind hf
      refine r_ld_R (ci := 11) (k := 30) X h3 (Nat.le_of_ble_eq_true rfl) (Nat.le_of_ble_eq_true rfl) rfl rfl q734 d_M_often0_11 ?_
      refine r_aload_n X d_M_often0_14 rfl 0 rfl ?_
      refine r_iload_n X d_M_often0_15 rfl 3 rfl ?_
      refine r_iload_n X d_M_often0_16 rfl 1 rfl ?_
      obtain ⟨x5, h4, hf⟩ := obind hf
      obtain ⟨x8, σ7, h6, hf⟩ := pbind hf
      refine r_callV (st := [tR x2]) X [tI v3, tI v1] (ci := 11) h4 (Nat.le_of_ble_eq_true rfl) q918 q920 sl29 (c_M_place v0 v3 v1 h6) q921 q11 y_M_place_ok rfl ⟨Nat.le_of_ble_eq_true rfl, Nat.le_of_ble_eq_true rfl⟩ (Nat.le_of_ble_eq_true rfl) ⟨Nat.le_of_ble_eq_true rfl, Nat.le_of_ble_eq_true rfl⟩ d_M_often0_17 ?_
      obtain ⟨x9, h10, hf⟩ := obind hf
      refine r_al_I X h10 d_M_often0_20 ?_
      refine r_iload_n X d_M_often0_21 rfl 2 rfl ?_
      refine r_icmp_ge (tgt := 39) X d_M_often0_22 (by decide) (fun hc11 => ?_) (fun hc11 => ?_)
      · have hf := (if_pos hc11).symm.trans hf
        refine r_iload_n X d_M_often0_39 rfl 2 rfl ?_
        refine r_widen (kc2 := 0) (ks2 := 0) (Nat.le_of_ble_eq_true rfl) (Nat.le_of_ble_eq_true rfl) ?_
        refine r_sub [0, 1, 3] (lv' := [(0, tR v0), (1, tI v1), (3, tI v3)]) rfl ?_
        exact b_M_often0_40 X hret hlk hnm n (f_M_often0_5 n i) ih v0 v1 v3 v2 σ7 hf
      · have hf := (if_neg hc11).symm.trans hf
        refine r_aload_n X d_M_often0_25 rfl 0 rfl ?_
        obtain ⟨x12, h13, hf⟩ := obind hf
        refine r_ld_R (ci := 11) (k := 30) X h13 (Nat.le_of_ble_eq_true rfl) (Nat.le_of_ble_eq_true rfl) rfl rfl q734 d_M_often0_26 ?_
        refine r_aload_n X d_M_often0_29 rfl 0 rfl ?_
        refine r_iload_n X d_M_often0_30 rfl 3 rfl ?_
        refine r_iload_n X d_M_often0_31 rfl 1 rfl ?_
        obtain ⟨x15, h14, hf⟩ := obind hf
        obtain ⟨x18, σ17, h16, hf⟩ := pbind hf
        refine r_callV (st := [tR x12]) X [tI v3, tI v1] (ci := 11) h14 (Nat.le_of_ble_eq_true rfl) q918 q920 sl29 (c_M_place v0 v3 v1 h16) q921 q11 y_M_place_ok rfl ⟨Nat.le_of_ble_eq_true rfl, Nat.le_of_ble_eq_true rfl⟩ (Nat.le_of_ble_eq_true rfl) ⟨Nat.le_of_ble_eq_true rfl, Nat.le_of_ble_eq_true rfl⟩ d_M_often0_32 ?_
        obtain ⟨x19, h20, hf⟩ := obind hf
        refine r_al_I X h20 d_M_often0_35 ?_
        refine r_goto (tgt := 40) X d_M_often0_36 (by decide) ?_
        refine r_widen (kc2 := 0) (ks2 := 0) (Nat.le_of_ble_eq_true rfl) (Nat.le_of_ble_eq_true rfl) ?_
        refine r_sub [0, 1, 3] (lv' := [(0, tR v0), (1, tI v1), (3, tI v3)]) rfl ?_
        exact b_M_often0_40 X hret hlk hnm n (f_M_often0_5 n i) ih v0 v1 v3 x19 σ17 hf

def f_M_often0 (n : Nat) (v0 : Option Nat) (v1 : Int32) (σ : Hp) : Option (Int32 × Hp) :=
  f_M_often0_5 n  n v0 v1 15 0 σ
set_option maxRecDepth 100000 in
theorem c_M_often0 {l : Launch} {DD : DT} (n : Nat) (v0 : Option Nat) (v1 : Int32) {σ0 σz : Hp} {rz : Int32} (hf : f_M_often0 n v0 v1 σ0 = some (rz, σz)) : CT l DD y_M_often0 prog_13_method_9_code 4 (some .int) rm_M_often0 [tR v0, tI v1] σ0 (some (tI rz)) σz := by
  refine r_met (by decide) (Nat.le_of_ble_eq_true rfl) ?_
  intro p e s m args below meth c X hret hlk hnm
  unfold f_M_often0 at hf
  refine r_bipush (v := 15) X d_M_often0_0 (by decide) ?_
  refine r_istore_n (lv' := [(0, tR v0), (1, tI v1), (2, tI 15)]) X [1, 2, 0] d_M_often0_2 rfl (Nat.le_of_ble_eq_true rfl) rfl ?_
  refine r_iconst (v := 0) X d_M_often0_3 (by decide) ?_
  refine r_istore_n (lv' := [(0, tR v0), (1, tI v1), (2, tI 15), (3, tI 0)]) X [1, 2, 3, 0] d_M_often0_4 rfl (Nat.le_of_ble_eq_true rfl) rfl ?_
  refine r_widen (kc2 := 0) (ks2 := 0) (Nat.le_of_ble_eq_true rfl) (Nat.le_of_ble_eq_true rfl) ?_
  refine r_sub [0, 1, 2, 3] (lv' := [(0, tR v0), (1, tI v1), (2, tI 15), (3, tI 0)]) rfl ?_
  exact b_M_often0_5 X hret hlk hnm n   n v0 v1 15 0 σ0 hf

def f_M_drawn (v0 : Option Nat) (σ : Hp) : Option (Int32 × Hp) :=
  Option.bind (ld_I σ v0 11 35) fun x1 =>
  Option.bind (ld_I σ v0 11 35) fun x3 =>
  Option.bind (st_I σ v0 11 35 (x1 ^^^ (x3 <<< (13 &&& 31)))) fun σ5 =>
  Option.bind (ld_I σ5 v0 11 35) fun x7 =>
  Option.bind (ld_I σ5 v0 11 35) fun x9 =>
  Option.bind (st_I σ5 v0 11 35 (x7 ^^^ (iushr_ x9 17))) fun σ11 =>
  Option.bind (ld_I σ11 v0 11 35) fun x13 =>
  Option.bind (ld_I σ11 v0 11 35) fun x15 =>
  Option.bind (st_I σ11 v0 11 35 (x13 ^^^ (x15 <<< (5 &&& 31)))) fun σ17 =>
  Option.bind (ld_I σ17 v0 11 35) fun x19 =>
  if (x19 - x19 / 128 * 128) = 0 then
  (
    some (1, σ17))
  else
  (
    some (0, σ17))
set_option maxRecDepth 100000 in
theorem c_M_drawn {l : Launch} {DD : DT} (v0 : Option Nat) {σ0 σz : Hp} {rz : Int32} (hf : f_M_drawn v0 σ0 = some (rz, σz)) : CT l DD y_M_drawn prog_13_method_25_code 1 (some .boolean) rm_M_drawn [tR v0] σ0 (some (tI rz)) σz := by
  refine r_met (by decide) (Nat.le_of_ble_eq_true rfl) ?_
  intro p e s m args below meth c X hret hlk hnm
  unfold f_M_drawn at hf
  refine r_aload_n X d_M_drawn_0 rfl 0 rfl ?_
  refine r_dup X d_M_drawn_1 rfl ?_
  obtain ⟨x1, h2, hf⟩ := obind hf
  refine r_ld_I (ci := 11) (k := 35) X h2 (Nat.le_of_ble_eq_true rfl) (Nat.le_of_ble_eq_true rfl) (Or.inl rfl) rfl q739 d_M_drawn_2 ?_
  refine r_aload_n X d_M_drawn_5 rfl 0 rfl ?_
  obtain ⟨x3, h4, hf⟩ := obind hf
  refine r_ld_I (ci := 11) (k := 35) X h4 (Nat.le_of_ble_eq_true rfl) (Nat.le_of_ble_eq_true rfl) (Or.inl rfl) rfl q739 d_M_drawn_6 ?_
  refine r_bipush (v := 13) X d_M_drawn_9 (by decide) ?_
  refine r_ishl X d_M_drawn_11 ?_
  refine r_ixor X d_M_drawn_12 ?_
  obtain ⟨σ5, h6, hf⟩ := obind hf
  refine r_st_I (ci := 11) (k := 35) X h6 (Nat.le_of_ble_eq_true rfl) (Nat.le_of_ble_eq_true rfl) rfl rfl rfl q739 d_M_drawn_13 ?_
  refine r_aload_n X d_M_drawn_16 rfl 0 rfl ?_
  refine r_dup X d_M_drawn_17 rfl ?_
  obtain ⟨x7, h8, hf⟩ := obind hf
  refine r_ld_I (ci := 11) (k := 35) X h8 (Nat.le_of_ble_eq_true rfl) (Nat.le_of_ble_eq_true rfl) (Or.inl rfl) rfl q739 d_M_drawn_18 ?_
  refine r_aload_n X d_M_drawn_21 rfl 0 rfl ?_
  obtain ⟨x9, h10, hf⟩ := obind hf
  refine r_ld_I (ci := 11) (k := 35) X h10 (Nat.le_of_ble_eq_true rfl) (Nat.le_of_ble_eq_true rfl) (Or.inl rfl) rfl q739 d_M_drawn_22 ?_
  refine r_bipush (v := 17) X d_M_drawn_25 (by decide) ?_
  refine r_iushr X d_M_drawn_27 ?_
  refine r_ixor X d_M_drawn_28 ?_
  obtain ⟨σ11, h12, hf⟩ := obind hf
  refine r_st_I (ci := 11) (k := 35) X h12 (Nat.le_of_ble_eq_true rfl) (Nat.le_of_ble_eq_true rfl) rfl rfl rfl q739 d_M_drawn_29 ?_
  refine r_aload_n X d_M_drawn_32 rfl 0 rfl ?_
  refine r_dup X d_M_drawn_33 rfl ?_
  obtain ⟨x13, h14, hf⟩ := obind hf
  refine r_ld_I (ci := 11) (k := 35) X h14 (Nat.le_of_ble_eq_true rfl) (Nat.le_of_ble_eq_true rfl) (Or.inl rfl) rfl q739 d_M_drawn_34 ?_
  refine r_aload_n X d_M_drawn_37 rfl 0 rfl ?_
  obtain ⟨x15, h16, hf⟩ := obind hf
  refine r_ld_I (ci := 11) (k := 35) X h16 (Nat.le_of_ble_eq_true rfl) (Nat.le_of_ble_eq_true rfl) (Or.inl rfl) rfl q739 d_M_drawn_38 ?_
  refine r_iconst (v := 5) X d_M_drawn_41 (by decide) ?_
  refine r_ishl X d_M_drawn_42 ?_
  refine r_ixor X d_M_drawn_43 ?_
  obtain ⟨σ17, h18, hf⟩ := obind hf
  refine r_st_I (ci := 11) (k := 35) X h18 (Nat.le_of_ble_eq_true rfl) (Nat.le_of_ble_eq_true rfl) rfl rfl rfl q739 d_M_drawn_44 ?_
  refine r_aload_n X d_M_drawn_47 rfl 0 rfl ?_
  obtain ⟨x19, h20, hf⟩ := obind hf
  refine r_ld_I (ci := 11) (k := 35) X h20 (Nat.le_of_ble_eq_true rfl) (Nat.le_of_ble_eq_true rfl) (Or.inl rfl) rfl q739 d_M_drawn_48 ?_
  refine r_sipush (v := 128) X d_M_drawn_51 (by decide) ?_
  refine r_irem X d_M_drawn_54 (by decide) ?_
  refine r_if_ne (tgt := 62) X d_M_drawn_55 (by decide) (fun hc21 => ?_) (fun hc21 => ?_)
  · have hf := (if_neg hc21).symm.trans hf
    refine r_iconst (v := 0) X d_M_drawn_62 (by decide) ?_
    cases hf
    refine r_widen (kc2 := rm_M_drawn.cells) (ks2 := rm_M_drawn.slots) (Nat.le_of_ble_eq_true rfl) (Nat.le_of_ble_eq_true rfl) ?_
    exact r_zret X hret hlk (by decide) d_M_drawn_63
  · have hf := (if_pos hc21).symm.trans hf
    refine r_iconst (v := 1) X d_M_drawn_58 (by decide) ?_
    refine r_goto (tgt := 63) X d_M_drawn_59 (by decide) ?_
    cases hf
    refine r_widen (kc2 := rm_M_drawn.cells) (ks2 := rm_M_drawn.slots) (Nat.le_of_ble_eq_true rfl) (Nat.le_of_ble_eq_true rfl) ?_
    exact r_zret X hret hlk (by decide) d_M_drawn_63

def f_M_evict (v0 : Option Nat) (v1 : Int32) (σ : Hp) : Option Hp :=
  Option.bind (ld_I σ v0 11 43) fun x1 =>
  Option.bind (st_I σ v0 11 43 (x1 + 1)) fun σ3 =>
  Option.bind (ld_I σ3 v0 11 44) fun x5 =>
  Option.bind (ld_R σ3 v0 11 13) fun x7 =>
  Option.bind (al_I σ3 0 x7 v1) fun x9 =>
  Option.bind (st_I σ3 v0 11 44 (x5 + x9)) fun σ11 =>
  Option.bind (ld_R σ11 v0 11 15) fun x13 =>
  Option.bind (as_I σ11 0 x13 v1 0) fun σ15 =>
  Option.bind (is_O σ15 v0 11) fun x18 =>
  Option.bind (f_M_drop v0 v1 3 σ15) fun σ20 =>
  some σ20
set_option maxRecDepth 100000 in
theorem c_M_evict {l : Launch} {DD : DT} (v0 : Option Nat) (v1 : Int32) {σ0 σz : Hp} (hf : f_M_evict v0 v1 σ0 = some σz) : CT l DD y_M_evict prog_13_method_23_code 2 none rm_M_evict [tR v0, tI v1] σ0 none σz := by
  refine r_met (by decide) (Nat.le_of_ble_eq_true rfl) ?_
  intro p e s m args below meth c X hret hlk hnm
  unfold f_M_evict at hf
  refine r_aload_n X d_M_evict_0 rfl 0 rfl ?_
  refine r_dup X d_M_evict_1 rfl ?_
  obtain ⟨x1, h2, hf⟩ := obind hf
  refine r_ld_I (ci := 11) (k := 43) X h2 (Nat.le_of_ble_eq_true rfl) (Nat.le_of_ble_eq_true rfl) (Or.inl rfl) rfl q747 d_M_evict_2 ?_
  refine r_iconst (v := 1) X d_M_evict_5 (by decide) ?_
  refine r_iadd X d_M_evict_6 ?_
  obtain ⟨σ3, h4, hf⟩ := obind hf
  refine r_st_I (ci := 11) (k := 43) X h4 (Nat.le_of_ble_eq_true rfl) (Nat.le_of_ble_eq_true rfl) rfl rfl rfl q747 d_M_evict_7 ?_
  refine r_aload_n X d_M_evict_10 rfl 0 rfl ?_
  refine r_dup X d_M_evict_11 rfl ?_
  obtain ⟨x5, h6, hf⟩ := obind hf
  refine r_ld_I (ci := 11) (k := 44) X h6 (Nat.le_of_ble_eq_true rfl) (Nat.le_of_ble_eq_true rfl) (Or.inl rfl) rfl q748 d_M_evict_12 ?_
  refine r_aload_n X d_M_evict_15 rfl 0 rfl ?_
  obtain ⟨x7, h8, hf⟩ := obind hf
  refine r_ld_R (ci := 11) (k := 13) X h8 (Nat.le_of_ble_eq_true rfl) (Nat.le_of_ble_eq_true rfl) rfl rfl q717 d_M_evict_16 ?_
  refine r_iload_n X d_M_evict_19 rfl 1 rfl ?_
  obtain ⟨x9, h10, hf⟩ := obind hf
  refine r_al_I X h10 d_M_evict_20 ?_
  refine r_iadd X d_M_evict_21 ?_
  obtain ⟨σ11, h12, hf⟩ := obind hf
  refine r_st_I (ci := 11) (k := 44) X h12 (Nat.le_of_ble_eq_true rfl) (Nat.le_of_ble_eq_true rfl) rfl rfl rfl q748 d_M_evict_22 ?_
  refine r_aload_n X d_M_evict_25 rfl 0 rfl ?_
  obtain ⟨x13, h14, hf⟩ := obind hf
  refine r_ld_R (ci := 11) (k := 15) X h14 (Nat.le_of_ble_eq_true rfl) (Nat.le_of_ble_eq_true rfl) rfl rfl q719 d_M_evict_26 ?_
  refine r_iload_n X d_M_evict_29 rfl 1 rfl ?_
  refine r_iconst (v := 0) X d_M_evict_30 (by decide) ?_
  obtain ⟨σ15, h16, hf⟩ := obind hf
  refine r_as_I X h16 d_M_evict_31 ?_
  refine r_aload_n X d_M_evict_32 rfl 0 rfl ?_
  refine r_iload_n X d_M_evict_33 rfl 1 rfl ?_
  refine r_iconst (v := 3) X d_M_evict_34 (by decide) ?_
  obtain ⟨x18, h17, hf⟩ := obind hf
  obtain ⟨σ20, h19, hf⟩ := obind hf
  refine r_callV (st := []) X [tI v1, tI 3] (ci := 11) h17 (Nat.le_of_ble_eq_true rfl) q898 q900 sl24 (c_M_drop v0 v1 3 h19) q901 q11 y_M_drop_ok rfl ⟨Nat.le_of_ble_eq_true rfl, Nat.le_of_ble_eq_true rfl⟩ (Nat.le_of_ble_eq_true rfl) ⟨Nat.le_of_ble_eq_true rfl, Nat.le_of_ble_eq_true rfl⟩ d_M_evict_35 ?_
  cases hf
  refine r_widen (kc2 := rm_M_evict.cells) (ks2 := rm_M_evict.slots) (Nat.le_of_ble_eq_true rfl) (Nat.le_of_ble_eq_true rfl) ?_
  exact r_vret X hret hlk d_M_evict_38

def f_M_shrink_189 (n : Nat) (rec57 : Option Nat → Hp → Option Hp) (v0 : Option Nat) (w0 : Int32) (w1 : Option Nat) (σ : Hp) : Option Hp :=
  Option.bind (is_O σ w1 11) fun x37 =>
  Option.bind (f_M_evict w1 w0 σ) fun σ39 =>
  rec57 v0 σ39
set_option maxRecDepth 100000 in
theorem b_M_shrink_189 {p : Program} {l : Launch} {e : Env} {s : State} {m : MethodId} {args : Array Value} {below : List Frame} {meth : Method} {c : Code} {DD : DT} {σ0 σz : Hp} (X : CX p s m args c prog_13_method_26_code 4 (dm σ0) DD y_M_shrink.cls) (hret : meth.sig.returnType = none) (hlk : meth.locks = false) (hnm : meth.name = y_M_shrink.name) (n : Nat) (rec57 : Option Nat → Hp → Option Hp) (hrec57 : ∀ (v0 : Option Nat) (σ : Hp), rec57 v0 σ = some σz → GG p l e rm_M_shrink s m args below meth c 4 (dm σ0) DD (MQ below (Post DD σ0 none σz) args s rm_M_shrink.cells rm_M_shrink.slots (dm σ0)) 0 0 σ 57 [(0, tR v0)] []) (v0 : Option Nat) (w0 : Int32) (w1 : Option Nat) (σ : Hp) (hf : f_M_shrink_189 n rec57 v0 w0 w1 σ = some σz) : GG p l e rm_M_shrink s m args below meth c 4 (dm σ0) DD (MQ below (Post DD σ0 none σz) args s rm_M_shrink.cells rm_M_shrink.slots (dm σ0)) 0 0 σ 189 [(0, tR v0)] [tI w0, tR w1] := by
  unfold f_M_shrink_189 at hf
  obtain ⟨x37, h36, hf⟩ := obind hf
  obtain ⟨σ39, h38, hf⟩ := obind hf
  refine r_callV (st := []) X [tI w0] (ci := 11) h36 (Nat.le_of_ble_eq_true rfl) q970 q972 sl42 (c_M_evict w1 w0 h38) q973 q11 y_M_evict_ok rfl ⟨Nat.le_of_ble_eq_true rfl, Nat.le_of_ble_eq_true rfl⟩ (Nat.le_of_ble_eq_true rfl) ⟨Nat.le_of_ble_eq_true rfl, Nat.le_of_ble_eq_true rfl⟩ d_M_shrink_189 ?_
  refine r_goto (tgt := 57) X d_M_shrink_192 (by decide) ?_
  refine r_widen (kc2 := 0) (ks2 := 0) (Nat.le_of_ble_eq_true rfl) (Nat.le_of_ble_eq_true rfl) ?_
  refine r_sub [0] (lv' := [(0, tR v0)]) rfl ?_
  exact hrec57 v0 σ39 hf

def f_M_shrink_179 (n : Nat) (rec57 : Option Nat → Hp → Option Hp) (v0 : Option Nat) (v1 : Int32) (v2 : Int32) (v3 : Int32) (σ : Hp) : Option Hp :=
  if v3 = 0 then
  (
    f_M_shrink_189 n rec57 v0 v2 v0 σ)
  else
  (
    f_M_shrink_189 n rec57 v0 v1 v0 σ)
set_option maxRecDepth 100000 in
theorem b_M_shrink_179 {p : Program} {l : Launch} {e : Env} {s : State} {m : MethodId} {args : Array Value} {below : List Frame} {meth : Method} {c : Code} {DD : DT} {σ0 σz : Hp} (X : CX p s m args c prog_13_method_26_code 4 (dm σ0) DD y_M_shrink.cls) (hret : meth.sig.returnType = none) (hlk : meth.locks = false) (hnm : meth.name = y_M_shrink.name) (n : Nat) (rec57 : Option Nat → Hp → Option Hp) (hrec57 : ∀ (v0 : Option Nat) (σ : Hp), rec57 v0 σ = some σz → GG p l e rm_M_shrink s m args below meth c 4 (dm σ0) DD (MQ below (Post DD σ0 none σz) args s rm_M_shrink.cells rm_M_shrink.slots (dm σ0)) 0 0 σ 57 [(0, tR v0)] []) (v0 : Option Nat) (v1 : Int32) (v2 : Int32) (v3 : Int32) (σ : Hp) (hf : f_M_shrink_179 n rec57 v0 v1 v2 v3 σ = some σz) : GG p l e rm_M_shrink s m args below meth c 4 (dm σ0) DD (MQ below (Post DD σ0 none σz) args s rm_M_shrink.cells rm_M_shrink.slots (dm σ0)) 0 0 σ 179 [(0, tR v0), (1, tI v1), (2, tI v2), (3, tI v3)] [] := by
  unfold f_M_shrink_179 at hf
  refine r_aload_n X d_M_shrink_179 rfl 0 rfl ?_
  refine r_iload_n X d_M_shrink_180 rfl 3 rfl ?_
  refine r_if_eq (tgt := 188) X d_M_shrink_181 (by decide) (fun hc35 => ?_) (fun hc35 => ?_)
  · have hf := (if_pos hc35).symm.trans hf
    refine r_iload_n X d_M_shrink_188 rfl 2 rfl ?_
    refine r_widen (kc2 := 0) (ks2 := 0) (Nat.le_of_ble_eq_true rfl) (Nat.le_of_ble_eq_true rfl) ?_
    refine r_sub [0] (lv' := [(0, tR v0)]) rfl ?_
    exact b_M_shrink_189 X hret hlk hnm n rec57 hrec57 v0 v2 v0 σ hf
  · have hf := (if_neg hc35).symm.trans hf
    refine r_iload_n X d_M_shrink_184 rfl 1 rfl ?_
    refine r_goto (tgt := 189) X d_M_shrink_185 (by decide) ?_
    refine r_widen (kc2 := 0) (ks2 := 0) (Nat.le_of_ble_eq_true rfl) (Nat.le_of_ble_eq_true rfl) ?_
    refine r_sub [0] (lv' := [(0, tR v0)]) rfl ?_
    exact b_M_shrink_189 X hret hlk hnm n rec57 hrec57 v0 v1 v0 σ hf

def f_M_shrink_163 (n : Nat) (rec57 : Option Nat → Hp → Option Hp) (v0 : Option Nat) (v1 : Int32) (v2 : Int32) (v3 : Int32) (σ : Hp) : Option Hp :=
  if v3 = 0 then
  (
    f_M_shrink_179 n rec57 v0 v1 v2 v3 σ)
  else
  (
    if v2 = ((-1)) then
    (
      f_M_shrink_179 n rec57 v0 v1 v2 v3 σ)
    else
    (
      Option.bind (ld_R σ v0 11 21) fun x41 =>
      Option.bind (as_Z σ 2 x41 v2 0) fun σ43 =>
      f_M_shrink_179 n rec57 v0 v1 v2 v3 σ43))
set_option maxRecDepth 100000 in
theorem b_M_shrink_163 {p : Program} {l : Launch} {e : Env} {s : State} {m : MethodId} {args : Array Value} {below : List Frame} {meth : Method} {c : Code} {DD : DT} {σ0 σz : Hp} (X : CX p s m args c prog_13_method_26_code 4 (dm σ0) DD y_M_shrink.cls) (hret : meth.sig.returnType = none) (hlk : meth.locks = false) (hnm : meth.name = y_M_shrink.name) (n : Nat) (rec57 : Option Nat → Hp → Option Hp) (hrec57 : ∀ (v0 : Option Nat) (σ : Hp), rec57 v0 σ = some σz → GG p l e rm_M_shrink s m args below meth c 4 (dm σ0) DD (MQ below (Post DD σ0 none σz) args s rm_M_shrink.cells rm_M_shrink.slots (dm σ0)) 0 0 σ 57 [(0, tR v0)] []) (v0 : Option Nat) (v1 : Int32) (v2 : Int32) (v3 : Int32) (σ : Hp) (hf : f_M_shrink_163 n rec57 v0 v1 v2 v3 σ = some σz) : GG p l e rm_M_shrink s m args below meth c 4 (dm σ0) DD (MQ below (Post DD σ0 none σz) args s rm_M_shrink.cells rm_M_shrink.slots (dm σ0)) 0 0 σ 163 [(0, tR v0), (1, tI v1), (2, tI v2), (3, tI v3)] [] := by
  unfold f_M_shrink_163 at hf
  refine r_iload_n X d_M_shrink_163 rfl 3 rfl ?_
  refine r_if_eq (tgt := 179) X d_M_shrink_164 (by decide) (fun hc34 => ?_) (fun hc34 => ?_)
  · have hf := (if_pos hc34).symm.trans hf
    refine r_widen (kc2 := 0) (ks2 := 0) (Nat.le_of_ble_eq_true rfl) (Nat.le_of_ble_eq_true rfl) ?_
    refine r_sub [0, 1, 2, 3] (lv' := [(0, tR v0), (1, tI v1), (2, tI v2), (3, tI v3)]) rfl ?_
    exact b_M_shrink_179 X hret hlk hnm n rec57 hrec57 v0 v1 v2 v3 σ hf
  · have hf := (if_neg hc34).symm.trans hf
    refine r_iload_n X d_M_shrink_167 rfl 2 rfl ?_
    refine r_iconst (v := -1) X d_M_shrink_168 (by decide) ?_
    refine r_icmp_eq (tgt := 179) X d_M_shrink_169 (by decide) (fun hc40 => ?_) (fun hc40 => ?_)
    · have hf := (if_pos hc40).symm.trans hf
      refine r_widen (kc2 := 0) (ks2 := 0) (Nat.le_of_ble_eq_true rfl) (Nat.le_of_ble_eq_true rfl) ?_
      refine r_sub [0, 1, 2, 3] (lv' := [(0, tR v0), (1, tI v1), (2, tI v2), (3, tI v3)]) rfl ?_
      exact b_M_shrink_179 X hret hlk hnm n rec57 hrec57 v0 v1 v2 v3 σ hf
    · have hf := (if_neg hc40).symm.trans hf
      refine r_aload_n X d_M_shrink_172 rfl 0 rfl ?_
      obtain ⟨x41, h42, hf⟩ := obind hf
      refine r_ld_R (ci := 11) (k := 21) X h42 (Nat.le_of_ble_eq_true rfl) (Nat.le_of_ble_eq_true rfl) rfl rfl q725 d_M_shrink_173 ?_
      refine r_iload_n X d_M_shrink_176 rfl 2 rfl ?_
      refine r_iconst (v := 0) X d_M_shrink_177 (by decide) ?_
      obtain ⟨σ43, h44, hf⟩ := obind hf
      refine r_as_Z X h44 d_M_shrink_178 ?_
      refine r_widen (kc2 := 0) (ks2 := 0) (Nat.le_of_ble_eq_true rfl) (Nat.le_of_ble_eq_true rfl) ?_
      refine r_sub [0, 1, 2, 3] (lv' := [(0, tR v0), (1, tI v1), (2, tI v2), (3, tI v3)]) rfl ?_
      exact b_M_shrink_179 X hret hlk hnm n rec57 hrec57 v0 v1 v2 v3 σ43 hf

def f_M_shrink_139 (n : Nat) (rec57 : Option Nat → Hp → Option Hp) (v0 : Option Nat) (v1 : Int32) (v2 : Int32) (w0 : Int32) (σ : Hp) : Option Hp :=
  if w0 = 0 then
  (
    Option.bind (ld_R σ v0 11 11) fun x45 =>
    Option.bind (al_I σ 0 x45 v2) fun x47 =>
    Option.bind (is_O σ v0 11) fun x50 =>
    pb (f_M_often0 n v0 x47 σ) fun x53 σ52 =>
    if x53 ≤ 5 then
    (
      f_M_shrink_163 n rec57 v0 v1 v2 w0 σ52)
    else
    (
      Option.bind (is_O σ52 v0 11) fun x56 =>
      pb (f_M_drawn v0 σ52) fun x59 σ58 =>
      f_M_shrink_163 n rec57 v0 v1 v2 x59 σ58))
  else
  (
    f_M_shrink_163 n rec57 v0 v1 v2 w0 σ)
set_option maxRecDepth 100000 in
theorem b_M_shrink_139 {p : Program} {l : Launch} {e : Env} {s : State} {m : MethodId} {args : Array Value} {below : List Frame} {meth : Method} {c : Code} {DD : DT} {σ0 σz : Hp} (X : CX p s m args c prog_13_method_26_code 4 (dm σ0) DD y_M_shrink.cls) (hret : meth.sig.returnType = none) (hlk : meth.locks = false) (hnm : meth.name = y_M_shrink.name) (n : Nat) (rec57 : Option Nat → Hp → Option Hp) (hrec57 : ∀ (v0 : Option Nat) (σ : Hp), rec57 v0 σ = some σz → GG p l e rm_M_shrink s m args below meth c 4 (dm σ0) DD (MQ below (Post DD σ0 none σz) args s rm_M_shrink.cells rm_M_shrink.slots (dm σ0)) 0 0 σ 57 [(0, tR v0)] []) (v0 : Option Nat) (v1 : Int32) (v2 : Int32) (w0 : Int32) (σ : Hp) (hf : f_M_shrink_139 n rec57 v0 v1 v2 w0 σ = some σz) : GG p l e rm_M_shrink s m args below meth c 4 (dm σ0) DD (MQ below (Post DD σ0 none σz) args s rm_M_shrink.cells rm_M_shrink.slots (dm σ0)) 0 0 σ 139 [(0, tR v0), (1, tI v1), (2, tI v2)] [tI w0] := by
  unfold f_M_shrink_139 at hf
  refine r_istore_n (lv' := [(0, tR v0), (1, tI v1), (2, tI v2), (3, tI w0)]) X [1, 2, 3, 0] d_M_shrink_139 rfl (Nat.le_of_ble_eq_true rfl) rfl ?_
  refine r_iload_n X d_M_shrink_140 rfl 3 rfl ?_
  refine r_if_ne (tgt := 163) X d_M_shrink_141 (by decide) (fun hc33 => ?_) (fun hc33 => ?_)
  · have hf := (if_neg hc33).symm.trans hf
    refine r_widen (kc2 := 0) (ks2 := 0) (Nat.le_of_ble_eq_true rfl) (Nat.le_of_ble_eq_true rfl) ?_
    refine r_sub [0, 1, 2, 3] (lv' := [(0, tR v0), (1, tI v1), (2, tI v2), (3, tI w0)]) rfl ?_
    exact b_M_shrink_163 X hret hlk hnm n rec57 hrec57 v0 v1 v2 w0 σ hf
  · have hf := (if_pos hc33).symm.trans hf
    refine r_aload_n X d_M_shrink_144 rfl 0 rfl ?_
    refine r_aload_n X d_M_shrink_145 rfl 0 rfl ?_
    obtain ⟨x45, h46, hf⟩ := obind hf
    refine r_ld_R (ci := 11) (k := 11) X h46 (Nat.le_of_ble_eq_true rfl) (Nat.le_of_ble_eq_true rfl) rfl rfl q715 d_M_shrink_146 ?_
    refine r_iload_n X d_M_shrink_149 rfl 2 rfl ?_
    obtain ⟨x47, h48, hf⟩ := obind hf
    refine r_al_I X h48 d_M_shrink_150 ?_
    obtain ⟨x50, h49, hf⟩ := obind hf
    obtain ⟨x53, σ52, h51, hf⟩ := pbind hf
    refine r_callV (st := []) X [tI x47] (ci := 11) h49 (Nat.le_of_ble_eq_true rfl) q962 q964 sl40 (c_M_often0 n v0 x47 h51) q965 q11 y_M_often0_ok rfl ⟨Nat.le_of_ble_eq_true rfl, Nat.le_of_ble_eq_true rfl⟩ (Nat.le_of_ble_eq_true rfl) ⟨Nat.le_of_ble_eq_true rfl, Nat.le_of_ble_eq_true rfl⟩ d_M_shrink_151 ?_
    refine r_iconst (v := 5) X d_M_shrink_154 (by decide) ?_
    refine r_icmp_le (tgt := 163) X d_M_shrink_155 (by decide) (fun hc54 => ?_) (fun hc54 => ?_)
    · have hf := (if_pos hc54).symm.trans hf
      refine r_widen (kc2 := 0) (ks2 := 0) (Nat.le_of_ble_eq_true rfl) (Nat.le_of_ble_eq_true rfl) ?_
      refine r_sub [0, 1, 2, 3] (lv' := [(0, tR v0), (1, tI v1), (2, tI v2), (3, tI w0)]) rfl ?_
      exact b_M_shrink_163 X hret hlk hnm n rec57 hrec57 v0 v1 v2 w0 σ52 hf
    · have hf := (if_neg hc54).symm.trans hf
      refine r_aload_n X d_M_shrink_158 rfl 0 rfl ?_
      obtain ⟨x56, h55, hf⟩ := obind hf
      obtain ⟨x59, σ58, h57, hf⟩ := pbind hf
      refine r_callV (st := []) X [] (ci := 11) h55 (Nat.le_of_ble_eq_true rfl) q966 q968 sl41 (c_M_drawn v0 h57) q969 q11 y_M_drawn_ok rfl ⟨Nat.le_of_ble_eq_true rfl, Nat.le_of_ble_eq_true rfl⟩ (Nat.le_of_ble_eq_true rfl) ⟨Nat.le_of_ble_eq_true rfl, Nat.le_of_ble_eq_true rfl⟩ d_M_shrink_159 ?_
      refine r_istore_n (lv' := [(0, tR v0), (1, tI v1), (2, tI v2), (3, tI x59)]) X [1, 2, 3, 0] d_M_shrink_162 rfl (Nat.le_of_ble_eq_true rfl) rfl ?_
      refine r_widen (kc2 := 0) (ks2 := 0) (Nat.le_of_ble_eq_true rfl) (Nat.le_of_ble_eq_true rfl) ?_
      refine r_sub [0, 1, 2, 3] (lv' := [(0, tR v0), (1, tI v1), (2, tI v2), (3, tI x59)]) rfl ?_
      exact b_M_shrink_163 X hret hlk hnm n rec57 hrec57 v0 v1 v2 x59 σ58 hf

def f_M_shrink_134 (n : Nat) (rec57 : Option Nat → Hp → Option Hp) (v0 : Option Nat) (v1 : Int32) (v2 : Int32) (σ : Hp) : Option Hp :=
  f_M_shrink_139 n rec57 v0 v1 v2 1 σ
set_option maxRecDepth 100000 in
theorem b_M_shrink_134 {p : Program} {l : Launch} {e : Env} {s : State} {m : MethodId} {args : Array Value} {below : List Frame} {meth : Method} {c : Code} {DD : DT} {σ0 σz : Hp} (X : CX p s m args c prog_13_method_26_code 4 (dm σ0) DD y_M_shrink.cls) (hret : meth.sig.returnType = none) (hlk : meth.locks = false) (hnm : meth.name = y_M_shrink.name) (n : Nat) (rec57 : Option Nat → Hp → Option Hp) (hrec57 : ∀ (v0 : Option Nat) (σ : Hp), rec57 v0 σ = some σz → GG p l e rm_M_shrink s m args below meth c 4 (dm σ0) DD (MQ below (Post DD σ0 none σz) args s rm_M_shrink.cells rm_M_shrink.slots (dm σ0)) 0 0 σ 57 [(0, tR v0)] []) (v0 : Option Nat) (v1 : Int32) (v2 : Int32) (σ : Hp) (hf : f_M_shrink_134 n rec57 v0 v1 v2 σ = some σz) : GG p l e rm_M_shrink s m args below meth c 4 (dm σ0) DD (MQ below (Post DD σ0 none σz) args s rm_M_shrink.cells rm_M_shrink.slots (dm σ0)) 0 0 σ 134 [(0, tR v0), (1, tI v1), (2, tI v2)] [] := by
  unfold f_M_shrink_134 at hf
  refine r_iconst (v := 1) X d_M_shrink_134 (by decide) ?_
  refine r_goto (tgt := 139) X d_M_shrink_135 (by decide) ?_
  refine r_widen (kc2 := 0) (ks2 := 0) (Nat.le_of_ble_eq_true rfl) (Nat.le_of_ble_eq_true rfl) ?_
  refine r_sub [0, 1, 2] (lv' := [(0, tR v0), (1, tI v1), (2, tI v2)]) rfl ?_
  exact b_M_shrink_139 X hret hlk hnm n rec57 hrec57 v0 v1 v2 1 σ hf

def f_M_shrink_96 (n : Nat) (rec57 : Option Nat → Hp → Option Hp) (v0 : Option Nat) (v1 : Int32) (σ : Hp) : Option Hp :=
  Option.bind (is_O σ v0 11) fun x28 =>
  pb (f_M_nextCandidate n v0 σ) fun x31 σ30 =>
  if x31 = ((-1)) then
  (
    f_M_shrink_134 n rec57 v0 v1 x31 σ30)
  else
  (
    if x31 = v1 then
    (
      f_M_shrink_134 n rec57 v0 v1 x31 σ30)
    else
    (
      Option.bind (ld_R σ30 v0 11 11) fun x61 =>
      Option.bind (al_I σ30 0 x61 x31) fun x63 =>
      Option.bind (is_O σ30 v0 11) fun x66 =>
      pb (f_M_often0 n v0 x63 σ30) fun x69 σ68 =>
      Option.bind (ld_R σ68 v0 11 11) fun x70 =>
      Option.bind (al_I σ68 0 x70 v1) fun x72 =>
      Option.bind (is_O σ68 v0 11) fun x75 =>
      pb (f_M_often0 n v0 x72 σ68) fun x78 σ77 =>
      if x69 ≤ x78 then
      (
        f_M_shrink_139 n rec57 v0 v1 x31 0 σ77)
      else
      (
        f_M_shrink_134 n rec57 v0 v1 x31 σ77)))
set_option maxRecDepth 100000 in
theorem b_M_shrink_96 {p : Program} {l : Launch} {e : Env} {s : State} {m : MethodId} {args : Array Value} {below : List Frame} {meth : Method} {c : Code} {DD : DT} {σ0 σz : Hp} (X : CX p s m args c prog_13_method_26_code 4 (dm σ0) DD y_M_shrink.cls) (hret : meth.sig.returnType = none) (hlk : meth.locks = false) (hnm : meth.name = y_M_shrink.name) (n : Nat) (rec57 : Option Nat → Hp → Option Hp) (hrec57 : ∀ (v0 : Option Nat) (σ : Hp), rec57 v0 σ = some σz → GG p l e rm_M_shrink s m args below meth c 4 (dm σ0) DD (MQ below (Post DD σ0 none σz) args s rm_M_shrink.cells rm_M_shrink.slots (dm σ0)) 0 0 σ 57 [(0, tR v0)] []) (v0 : Option Nat) (v1 : Int32) (σ : Hp) (hf : f_M_shrink_96 n rec57 v0 v1 σ = some σz) : GG p l e rm_M_shrink s m args below meth c 4 (dm σ0) DD (MQ below (Post DD σ0 none σz) args s rm_M_shrink.cells rm_M_shrink.slots (dm σ0)) 0 0 σ 96 [(0, tR v0), (1, tI v1)] [] := by
  unfold f_M_shrink_96 at hf
  refine r_aload_n X d_M_shrink_96 rfl 0 rfl ?_
  obtain ⟨x28, h27, hf⟩ := obind hf
  obtain ⟨x31, σ30, h29, hf⟩ := pbind hf
  refine r_callV (st := []) X [] (ci := 11) h27 (Nat.le_of_ble_eq_true rfl) q958 q960 sl39 (c_M_nextCandidate n v0 h29) q961 q11 y_M_nextCandidate_ok rfl ⟨Nat.le_of_ble_eq_true rfl, Nat.le_of_ble_eq_true rfl⟩ (Nat.le_of_ble_eq_true rfl) ⟨Nat.le_of_ble_eq_true rfl, Nat.le_of_ble_eq_true rfl⟩ d_M_shrink_97 ?_
  refine r_istore_n (lv' := [(0, tR v0), (1, tI v1), (2, tI x31)]) X [1, 2, 0] d_M_shrink_100 rfl (Nat.le_of_ble_eq_true rfl) rfl ?_
  refine r_iload_n X d_M_shrink_101 rfl 2 rfl ?_
  refine r_iconst (v := -1) X d_M_shrink_102 (by decide) ?_
  refine r_icmp_eq (tgt := 134) X d_M_shrink_103 (by decide) (fun hc32 => ?_) (fun hc32 => ?_)
  · have hf := (if_pos hc32).symm.trans hf
    refine r_widen (kc2 := 0) (ks2 := 0) (Nat.le_of_ble_eq_true rfl) (Nat.le_of_ble_eq_true rfl) ?_
    refine r_sub [0, 1, 2] (lv' := [(0, tR v0), (1, tI v1), (2, tI x31)]) rfl ?_
    exact b_M_shrink_134 X hret hlk hnm n rec57 hrec57 v0 v1 x31 σ30 hf
  · have hf := (if_neg hc32).symm.trans hf
    refine r_iload_n X d_M_shrink_106 rfl 2 rfl ?_
    refine r_iload_n X d_M_shrink_107 rfl 1 rfl ?_
    refine r_icmp_eq (tgt := 134) X d_M_shrink_108 (by decide) (fun hc60 => ?_) (fun hc60 => ?_)
    · have hf := (if_pos hc60).symm.trans hf
      refine r_widen (kc2 := 0) (ks2 := 0) (Nat.le_of_ble_eq_true rfl) (Nat.le_of_ble_eq_true rfl) ?_
      refine r_sub [0, 1, 2] (lv' := [(0, tR v0), (1, tI v1), (2, tI x31)]) rfl ?_
      exact b_M_shrink_134 X hret hlk hnm n rec57 hrec57 v0 v1 x31 σ30 hf
    · have hf := (if_neg hc60).symm.trans hf
      refine r_aload_n X d_M_shrink_111 rfl 0 rfl ?_
      refine r_aload_n X d_M_shrink_112 rfl 0 rfl ?_
      obtain ⟨x61, h62, hf⟩ := obind hf
      refine r_ld_R (ci := 11) (k := 11) X h62 (Nat.le_of_ble_eq_true rfl) (Nat.le_of_ble_eq_true rfl) rfl rfl q715 d_M_shrink_113 ?_
      refine r_iload_n X d_M_shrink_116 rfl 2 rfl ?_
      obtain ⟨x63, h64, hf⟩ := obind hf
      refine r_al_I X h64 d_M_shrink_117 ?_
      obtain ⟨x66, h65, hf⟩ := obind hf
      obtain ⟨x69, σ68, h67, hf⟩ := pbind hf
      refine r_callV (st := []) X [tI x63] (ci := 11) h65 (Nat.le_of_ble_eq_true rfl) q962 q964 sl40 (c_M_often0 n v0 x63 h67) q965 q11 y_M_often0_ok rfl ⟨Nat.le_of_ble_eq_true rfl, Nat.le_of_ble_eq_true rfl⟩ (Nat.le_of_ble_eq_true rfl) ⟨Nat.le_of_ble_eq_true rfl, Nat.le_of_ble_eq_true rfl⟩ d_M_shrink_118 ?_
      refine r_aload_n X d_M_shrink_121 rfl 0 rfl ?_
      refine r_aload_n X d_M_shrink_122 rfl 0 rfl ?_
      obtain ⟨x70, h71, hf⟩ := obind hf
      refine r_ld_R (ci := 11) (k := 11) X h71 (Nat.le_of_ble_eq_true rfl) (Nat.le_of_ble_eq_true rfl) rfl rfl q715 d_M_shrink_123 ?_
      refine r_iload_n X d_M_shrink_126 rfl 1 rfl ?_
      obtain ⟨x72, h73, hf⟩ := obind hf
      refine r_al_I X h73 d_M_shrink_127 ?_
      obtain ⟨x75, h74, hf⟩ := obind hf
      obtain ⟨x78, σ77, h76, hf⟩ := pbind hf
      refine r_callV (st := [tI x69]) X [tI x72] (ci := 11) h74 (Nat.le_of_ble_eq_true rfl) q962 q964 sl40 (c_M_often0 n v0 x72 h76) q965 q11 y_M_often0_ok rfl ⟨Nat.le_of_ble_eq_true rfl, Nat.le_of_ble_eq_true rfl⟩ (Nat.le_of_ble_eq_true rfl) ⟨Nat.le_of_ble_eq_true rfl, Nat.le_of_ble_eq_true rfl⟩ d_M_shrink_128 ?_
      refine r_icmp_le (tgt := 138) X d_M_shrink_131 (by decide) (fun hc79 => ?_) (fun hc79 => ?_)
      · have hf := (if_pos hc79).symm.trans hf
        refine r_iconst (v := 0) X d_M_shrink_138 (by decide) ?_
        refine r_widen (kc2 := 0) (ks2 := 0) (Nat.le_of_ble_eq_true rfl) (Nat.le_of_ble_eq_true rfl) ?_
        refine r_sub [0, 1, 2] (lv' := [(0, tR v0), (1, tI v1), (2, tI x31)]) rfl ?_
        exact b_M_shrink_139 X hret hlk hnm n rec57 hrec57 v0 v1 x31 0 σ77 hf
      · have hf := (if_neg hc79).symm.trans hf
        refine r_widen (kc2 := 0) (ks2 := 0) (Nat.le_of_ble_eq_true rfl) (Nat.le_of_ble_eq_true rfl) ?_
        refine r_sub [0, 1, 2] (lv' := [(0, tR v0), (1, tI v1), (2, tI x31)]) rfl ?_
        exact b_M_shrink_134 X hret hlk hnm n rec57 hrec57 v0 v1 x31 σ77 hf

def f_M_shrink_85 (n : Nat) (rec57 : Option Nat → Hp → Option Hp) (v0 : Option Nat) (v1 : Int32) (σ : Hp) : Option Hp :=
  if v1 = ((-1)) then
  (
    Option.bind (is_O σ v0 11) fun x81 =>
    pb (f_M_earliest n v0 1 σ) fun x84 σ83 =>
    f_M_shrink_96 n rec57 v0 x84 σ83)
  else
  (
    f_M_shrink_96 n rec57 v0 v1 σ)
set_option maxRecDepth 100000 in
theorem b_M_shrink_85 {p : Program} {l : Launch} {e : Env} {s : State} {m : MethodId} {args : Array Value} {below : List Frame} {meth : Method} {c : Code} {DD : DT} {σ0 σz : Hp} (X : CX p s m args c prog_13_method_26_code 4 (dm σ0) DD y_M_shrink.cls) (hret : meth.sig.returnType = none) (hlk : meth.locks = false) (hnm : meth.name = y_M_shrink.name) (n : Nat) (rec57 : Option Nat → Hp → Option Hp) (hrec57 : ∀ (v0 : Option Nat) (σ : Hp), rec57 v0 σ = some σz → GG p l e rm_M_shrink s m args below meth c 4 (dm σ0) DD (MQ below (Post DD σ0 none σz) args s rm_M_shrink.cells rm_M_shrink.slots (dm σ0)) 0 0 σ 57 [(0, tR v0)] []) (v0 : Option Nat) (v1 : Int32) (σ : Hp) (hf : f_M_shrink_85 n rec57 v0 v1 σ = some σz) : GG p l e rm_M_shrink s m args below meth c 4 (dm σ0) DD (MQ below (Post DD σ0 none σz) args s rm_M_shrink.cells rm_M_shrink.slots (dm σ0)) 0 0 σ 85 [(0, tR v0), (1, tI v1)] [] := by
  unfold f_M_shrink_85 at hf
  refine r_iload_n X d_M_shrink_85 rfl 1 rfl ?_
  refine r_iconst (v := -1) X d_M_shrink_86 (by decide) ?_
  refine r_icmp_ne (tgt := 96) X d_M_shrink_87 (by decide) (fun hc26 => ?_) (fun hc26 => ?_)
  · have hf := (if_neg hc26).symm.trans hf
    refine r_widen (kc2 := 0) (ks2 := 0) (Nat.le_of_ble_eq_true rfl) (Nat.le_of_ble_eq_true rfl) ?_
    refine r_sub [0, 1] (lv' := [(0, tR v0), (1, tI v1)]) rfl ?_
    exact b_M_shrink_96 X hret hlk hnm n rec57 hrec57 v0 v1 σ hf
  · have hf := (if_pos hc26).symm.trans hf
    refine r_aload_n X d_M_shrink_90 rfl 0 rfl ?_
    refine r_iconst (v := 1) X d_M_shrink_91 (by decide) ?_
    obtain ⟨x81, h80, hf⟩ := obind hf
    obtain ⟨x84, σ83, h82, hf⟩ := pbind hf
    refine r_callV (st := []) X [tI 1] (ci := 11) h80 (Nat.le_of_ble_eq_true rfl) q938 q940 sl34 (c_M_earliest n v0 1 h82) q941 q11 y_M_earliest_ok rfl ⟨Nat.le_of_ble_eq_true rfl, Nat.le_of_ble_eq_true rfl⟩ (Nat.le_of_ble_eq_true rfl) ⟨Nat.le_of_ble_eq_true rfl, Nat.le_of_ble_eq_true rfl⟩ d_M_shrink_92 ?_
    refine r_istore_n (lv' := [(0, tR v0), (1, tI x84)]) X [1, 0] d_M_shrink_95 rfl (Nat.le_of_ble_eq_true rfl) rfl ?_
    refine r_widen (kc2 := 0) (ks2 := 0) (Nat.le_of_ble_eq_true rfl) (Nat.le_of_ble_eq_true rfl) ?_
    refine r_sub [0, 1] (lv' := [(0, tR v0), (1, tI x84)]) rfl ?_
    exact b_M_shrink_96 X hret hlk hnm n rec57 hrec57 v0 x84 σ83 hf

def f_M_shrink_57 (n : Nat)  : Nat → Option Nat → Hp → Option Hp
  | 0, _, _ => none
  | i + 1, v0, σ =>
    Option.bind (is_O σ v0 11) fun x13 =>
    pb (f_M_all n v0 σ) fun x16 σ15 =>
    Option.bind (ld_I σ15 v0 11 1) fun x17 =>
    if x16 ≤ x17 then
    (
      some σ15)
    else
    (
      Option.bind (is_O σ15 v0 11) fun x21 =>
      pb (f_M_earliest n v0 2 σ15) fun x24 σ23 =>
      if x24 = ((-1)) then
      (
        Option.bind (is_O σ23 v0 11) fun x86 =>
        pb (f_M_earliest n v0 3 σ23) fun x89 σ88 =>
        f_M_shrink_85 n (f_M_shrink_57 n i) v0 x89 σ88)
      else
      (
        f_M_shrink_85 n (f_M_shrink_57 n i) v0 x24 σ23))
set_option maxRecDepth 100000 in
theorem b_M_shrink_57 {p : Program} {l : Launch} {e : Env} {s : State} {m : MethodId} {args : Array Value} {below : List Frame} {meth : Method} {c : Code} {DD : DT} {σ0 σz : Hp} (X : CX p s m args c prog_13_method_26_code 4 (dm σ0) DD y_M_shrink.cls) (hret : meth.sig.returnType = none) (hlk : meth.locks = false) (hnm : meth.name = y_M_shrink.name) (n : Nat)   : ∀ (i : Nat) (v0 : Option Nat) (σ : Hp) (hf : f_M_shrink_57 n  i v0 σ = some σz), GG p l e rm_M_shrink s m args below meth c 4 (dm σ0) DD (MQ below (Post DD σ0 none σz) args s rm_M_shrink.cells rm_M_shrink.slots (dm σ0)) 0 0 σ 57 [(0, tR v0)] [] := by
  intro i
  induction i with
  | zero => intro v0 σ hf; cases hf
  | succ i ih =>
    intro v0 σ hf
    simp only [f_M_shrink_57] at hf
    refine r_aload_n X d_M_shrink_57 rfl 0 rfl ?_
    obtain ⟨x13, h12, hf⟩ := obind hf
    obtain ⟨x16, σ15, h14, hf⟩ := pbind hf
    refine r_callV (st := []) X [] (ci := 11) h12 (Nat.le_of_ble_eq_true rfl) q954 q956 sl38 (c_M_all n v0 h14) q957 q11 y_M_all_ok rfl ⟨Nat.le_of_ble_eq_true rfl, Nat.le_of_ble_eq_true rfl⟩ (Nat.le_of_ble_eq_true rfl) ⟨Nat.le_of_ble_eq_true rfl, Nat.le_of_ble_eq_true rfl⟩ d_M_shrink_58 ?_
    refine r_aload_n X d_M_shrink_61 rfl 0 rfl ?_
    obtain ⟨x17, h18, hf⟩ := obind hf
    refine r_ld_I (ci := 11) (k := 1) X h18 (Nat.le_of_ble_eq_true rfl) (Nat.le_of_ble_eq_true rfl) (Or.inl rfl) rfl q705 d_M_shrink_62 ?_
    refine r_icmp_le (tgt := 195) X d_M_shrink_65 (by decide) (fun hc19 => ?_) (fun hc19 => ?_)
    · have hf := (if_pos hc19).symm.trans hf
      cases hf
      refine r_widen (kc2 := rm_M_shrink.cells) (ks2 := rm_M_shrink.slots) (Nat.le_of_ble_eq_true rfl) (Nat.le_of_ble_eq_true rfl) ?_
      exact r_vret X hret hlk d_M_shrink_195
    · have hf := (if_neg hc19).symm.trans hf
      refine r_aload_n X d_M_shrink_68 rfl 0 rfl ?_
      refine r_iconst (v := 2) X d_M_shrink_69 (by decide) ?_
      obtain ⟨x21, h20, hf⟩ := obind hf
      obtain ⟨x24, σ23, h22, hf⟩ := pbind hf
      refine r_callV (st := []) X [tI 2] (ci := 11) h20 (Nat.le_of_ble_eq_true rfl) q938 q940 sl34 (c_M_earliest n v0 2 h22) q941 q11 y_M_earliest_ok rfl ⟨Nat.le_of_ble_eq_true rfl, Nat.le_of_ble_eq_true rfl⟩ (Nat.le_of_ble_eq_true rfl) ⟨Nat.le_of_ble_eq_true rfl, Nat.le_of_ble_eq_true rfl⟩ d_M_shrink_70 ?_
      refine r_istore_n (lv' := [(0, tR v0), (1, tI x24)]) X [1, 0] d_M_shrink_73 rfl (Nat.le_of_ble_eq_true rfl) rfl ?_
      refine r_iload_n X d_M_shrink_74 rfl 1 rfl ?_
      refine r_iconst (v := -1) X d_M_shrink_75 (by decide) ?_
      refine r_icmp_ne (tgt := 85) X d_M_shrink_76 (by decide) (fun hc25 => ?_) (fun hc25 => ?_)
      · have hf := (if_neg hc25).symm.trans hf
        refine r_widen (kc2 := 0) (ks2 := 0) (Nat.le_of_ble_eq_true rfl) (Nat.le_of_ble_eq_true rfl) ?_
        refine r_sub [0, 1] (lv' := [(0, tR v0), (1, tI x24)]) rfl ?_
        exact b_M_shrink_85 X hret hlk hnm n (f_M_shrink_57 n i) ih v0 x24 σ23 hf
      · have hf := (if_pos hc25).symm.trans hf
        refine r_aload_n X d_M_shrink_79 rfl 0 rfl ?_
        refine r_iconst (v := 3) X d_M_shrink_80 (by decide) ?_
        obtain ⟨x86, h85, hf⟩ := obind hf
        obtain ⟨x89, σ88, h87, hf⟩ := pbind hf
        refine r_callV (st := []) X [tI 3] (ci := 11) h85 (Nat.le_of_ble_eq_true rfl) q938 q940 sl34 (c_M_earliest n v0 3 h87) q941 q11 y_M_earliest_ok rfl ⟨Nat.le_of_ble_eq_true rfl, Nat.le_of_ble_eq_true rfl⟩ (Nat.le_of_ble_eq_true rfl) ⟨Nat.le_of_ble_eq_true rfl, Nat.le_of_ble_eq_true rfl⟩ d_M_shrink_81 ?_
        refine r_istore_n (lv' := [(0, tR v0), (1, tI x89)]) X [1, 0] d_M_shrink_84 rfl (Nat.le_of_ble_eq_true rfl) rfl ?_
        refine r_widen (kc2 := 0) (ks2 := 0) (Nat.le_of_ble_eq_true rfl) (Nat.le_of_ble_eq_true rfl) ?_
        refine r_sub [0, 1] (lv' := [(0, tR v0), (1, tI x89)]) rfl ?_
        exact b_M_shrink_85 X hret hlk hnm n (f_M_shrink_57 n i) ih v0 x89 σ88 hf

def f_M_shrink_23 (n : Nat)  : Nat → Option Nat → Hp → Option Hp
  | 0, _, _ => none
  | i + 1, v0, σ =>
    Option.bind (is_O σ v0 11) fun x5 =>
    pb (f_M_weightOf n v0 1 σ) fun x8 σ7 =>
    Option.bind (ld_I σ7 v0 11 32) fun x9 =>
    if x8 ≤ x9 then
    (
      f_M_shrink_57 n  n v0 σ7)
    else
    (
      Option.bind (is_O σ7 v0 11) fun x91 =>
      pb (f_M_earliest n v0 1 σ7) fun x94 σ93 =>
      Option.bind (is_O σ93 v0 11) fun x96 =>
      Option.bind (f_M_latest v0 x94 2 σ93) fun σ98 =>
      Option.bind (ld_R σ98 v0 11 21) fun x99 =>
      Option.bind (as_Z σ98 2 x99 x94 1) fun σ101 =>
      f_M_shrink_23 n i v0 σ101)
set_option maxRecDepth 100000 in
theorem b_M_shrink_23 {p : Program} {l : Launch} {e : Env} {s : State} {m : MethodId} {args : Array Value} {below : List Frame} {meth : Method} {c : Code} {DD : DT} {σ0 σz : Hp} (X : CX p s m args c prog_13_method_26_code 4 (dm σ0) DD y_M_shrink.cls) (hret : meth.sig.returnType = none) (hlk : meth.locks = false) (hnm : meth.name = y_M_shrink.name) (n : Nat)   : ∀ (i : Nat) (v0 : Option Nat) (σ : Hp) (hf : f_M_shrink_23 n  i v0 σ = some σz), GG p l e rm_M_shrink s m args below meth c 4 (dm σ0) DD (MQ below (Post DD σ0 none σz) args s rm_M_shrink.cells rm_M_shrink.slots (dm σ0)) 0 0 σ 23 [(0, tR v0)] [] := by
  intro i
  induction i with
  | zero => intro v0 σ hf; cases hf
  | succ i ih =>
    intro v0 σ hf
    simp only [f_M_shrink_23] at hf
    refine r_aload_n X d_M_shrink_23 rfl 0 rfl ?_
    refine r_iconst (v := 1) X d_M_shrink_24 (by decide) ?_
    obtain ⟨x5, h4, hf⟩ := obind hf
    obtain ⟨x8, σ7, h6, hf⟩ := pbind hf
    refine r_callV (st := []) X [tI 1] (ci := 11) h4 (Nat.le_of_ble_eq_true rfl) q934 q936 sl33 (c_M_weightOf n v0 1 h6) q937 q11 y_M_weightOf_ok rfl ⟨Nat.le_of_ble_eq_true rfl, Nat.le_of_ble_eq_true rfl⟩ (Nat.le_of_ble_eq_true rfl) ⟨Nat.le_of_ble_eq_true rfl, Nat.le_of_ble_eq_true rfl⟩ d_M_shrink_25 ?_
    refine r_aload_n X d_M_shrink_28 rfl 0 rfl ?_
    obtain ⟨x9, h10, hf⟩ := obind hf
    refine r_ld_I (ci := 11) (k := 32) X h10 (Nat.le_of_ble_eq_true rfl) (Nat.le_of_ble_eq_true rfl) (Or.inl rfl) rfl q736 d_M_shrink_29 ?_
    refine r_icmp_le (tgt := 57) X d_M_shrink_32 (by decide) (fun hc11 => ?_) (fun hc11 => ?_)
    · have hf := (if_pos hc11).symm.trans hf
      refine r_widen (kc2 := 0) (ks2 := 0) (Nat.le_of_ble_eq_true rfl) (Nat.le_of_ble_eq_true rfl) ?_
      refine r_sub [0] (lv' := [(0, tR v0)]) rfl ?_
      exact b_M_shrink_57 X hret hlk hnm n   n v0 σ7 hf
    · have hf := (if_neg hc11).symm.trans hf
      refine r_aload_n X d_M_shrink_35 rfl 0 rfl ?_
      refine r_iconst (v := 1) X d_M_shrink_36 (by decide) ?_
      obtain ⟨x91, h90, hf⟩ := obind hf
      obtain ⟨x94, σ93, h92, hf⟩ := pbind hf
      refine r_callV (st := []) X [tI 1] (ci := 11) h90 (Nat.le_of_ble_eq_true rfl) q938 q940 sl34 (c_M_earliest n v0 1 h92) q941 q11 y_M_earliest_ok rfl ⟨Nat.le_of_ble_eq_true rfl, Nat.le_of_ble_eq_true rfl⟩ (Nat.le_of_ble_eq_true rfl) ⟨Nat.le_of_ble_eq_true rfl, Nat.le_of_ble_eq_true rfl⟩ d_M_shrink_37 ?_
      refine r_istore_n (lv' := [(0, tR v0), (1, tI x94)]) X [1, 0] d_M_shrink_40 rfl (Nat.le_of_ble_eq_true rfl) rfl ?_
      refine r_aload_n X d_M_shrink_41 rfl 0 rfl ?_
      refine r_iload_n X d_M_shrink_42 rfl 1 rfl ?_
      refine r_iconst (v := 2) X d_M_shrink_43 (by decide) ?_
      obtain ⟨x96, h95, hf⟩ := obind hf
      obtain ⟨σ98, h97, hf⟩ := obind hf
      refine r_callV (st := []) X [tI x94, tI 2] (ci := 11) h95 (Nat.le_of_ble_eq_true rfl) q926 q928 sl31 (c_M_latest v0 x94 2 h97) q929 q11 y_M_latest_ok rfl ⟨Nat.le_of_ble_eq_true rfl, Nat.le_of_ble_eq_true rfl⟩ (Nat.le_of_ble_eq_true rfl) ⟨Nat.le_of_ble_eq_true rfl, Nat.le_of_ble_eq_true rfl⟩ d_M_shrink_44 ?_
      refine r_aload_n X d_M_shrink_47 rfl 0 rfl ?_
      obtain ⟨x99, h100, hf⟩ := obind hf
      refine r_ld_R (ci := 11) (k := 21) X h100 (Nat.le_of_ble_eq_true rfl) (Nat.le_of_ble_eq_true rfl) rfl rfl q725 d_M_shrink_48 ?_
      refine r_iload_n X d_M_shrink_51 rfl 1 rfl ?_
      refine r_iconst (v := 1) X d_M_shrink_52 (by decide) ?_
      obtain ⟨σ101, h102, hf⟩ := obind hf
      refine r_as_Z X h102 d_M_shrink_53 ?_
      refine r_goto (tgt := 23) X d_M_shrink_54 (by decide) ?_
      refine r_widen (kc2 := 0) (ks2 := 0) (Nat.le_of_ble_eq_true rfl) (Nat.le_of_ble_eq_true rfl) ?_
      refine r_sub [0] (lv' := [(0, tR v0)]) rfl ?_
      exact ih v0 σ101 hf

def f_M_shrink_2 (n : Nat)  : Nat → Option Nat → Int32 → Hp → Option Hp
  | 0, _, _, _ => none
  | i + 1, v0, v1, σ =>
    Option.bind (ld_I σ v0 11 10) fun x1 =>
    if x1 ≤ v1 then
    (
      f_M_shrink_23 n  n v0 σ)
    else
    (
      Option.bind (ld_R σ v0 11 21) fun x103 =>
      Option.bind (as_Z σ 2 x103 v1 0) fun σ105 =>
      f_M_shrink_2 n i v0 (v1 + 1) σ105)
set_option maxRecDepth 100000 in
theorem b_M_shrink_2 {p : Program} {l : Launch} {e : Env} {s : State} {m : MethodId} {args : Array Value} {below : List Frame} {meth : Method} {c : Code} {DD : DT} {σ0 σz : Hp} (X : CX p s m args c prog_13_method_26_code 4 (dm σ0) DD y_M_shrink.cls) (hret : meth.sig.returnType = none) (hlk : meth.locks = false) (hnm : meth.name = y_M_shrink.name) (n : Nat)   : ∀ (i : Nat) (v0 : Option Nat) (v1 : Int32) (σ : Hp) (hf : f_M_shrink_2 n  i v0 v1 σ = some σz), GG p l e rm_M_shrink s m args below meth c 4 (dm σ0) DD (MQ below (Post DD σ0 none σz) args s rm_M_shrink.cells rm_M_shrink.slots (dm σ0)) 0 0 σ 2 [(0, tR v0), (1, tI v1)] [] := by
  intro i
  induction i with
  | zero => intro v0 v1 σ hf; cases hf
  | succ i ih =>
    intro v0 v1 σ hf
    simp only [f_M_shrink_2] at hf
    refine r_iload_n X d_M_shrink_2 rfl 1 rfl ?_
    refine r_aload_n X d_M_shrink_3 rfl 0 rfl ?_
    obtain ⟨x1, h2, hf⟩ := obind hf
    refine r_ld_I (ci := 11) (k := 10) X h2 (Nat.le_of_ble_eq_true rfl) (Nat.le_of_ble_eq_true rfl) (Or.inl rfl) rfl q714 d_M_shrink_4 ?_
    refine r_icmp_ge (tgt := 23) X d_M_shrink_7 (by decide) (fun hc3 => ?_) (fun hc3 => ?_)
    · have hf := (if_pos hc3).symm.trans hf
      refine r_widen (kc2 := 0) (ks2 := 0) (Nat.le_of_ble_eq_true rfl) (Nat.le_of_ble_eq_true rfl) ?_
      refine r_sub [0] (lv' := [(0, tR v0)]) rfl ?_
      exact b_M_shrink_23 X hret hlk hnm n   n v0 σ hf
    · have hf := (if_neg hc3).symm.trans hf
      refine r_aload_n X d_M_shrink_10 rfl 0 rfl ?_
      obtain ⟨x103, h104, hf⟩ := obind hf
      refine r_ld_R (ci := 11) (k := 21) X h104 (Nat.le_of_ble_eq_true rfl) (Nat.le_of_ble_eq_true rfl) rfl rfl q725 d_M_shrink_11 ?_
      refine r_iload_n X d_M_shrink_14 rfl 1 rfl ?_
      refine r_iconst (v := 0) X d_M_shrink_15 (by decide) ?_
      obtain ⟨σ105, h106, hf⟩ := obind hf
      refine r_as_Z X h106 d_M_shrink_16 ?_
      refine r_iinc (lv' := [(0, tR v0), (1, tI (v1 + 1))]) (j := 1) X [1, 0] d_M_shrink_17 rfl rfl (Nat.le_of_ble_eq_true rfl) rfl ?_
      refine r_goto (tgt := 2) X d_M_shrink_20 (by decide) ?_
      refine r_widen (kc2 := 0) (ks2 := 0) (Nat.le_of_ble_eq_true rfl) (Nat.le_of_ble_eq_true rfl) ?_
      refine r_sub [0, 1] (lv' := [(0, tR v0), (1, tI (v1 + 1))]) rfl ?_
      exact ih v0 (v1 + 1) σ105 hf

def f_M_shrink (n : Nat) (v0 : Option Nat) (σ : Hp) : Option Hp :=
  f_M_shrink_2 n  n v0 0 σ
set_option maxRecDepth 100000 in
theorem c_M_shrink {l : Launch} {DD : DT} (n : Nat) (v0 : Option Nat) {σ0 σz : Hp} (hf : f_M_shrink n v0 σ0 = some σz) : CT l DD y_M_shrink prog_13_method_26_code 4 none rm_M_shrink [tR v0] σ0 none σz := by
  refine r_met (by decide) (Nat.le_of_ble_eq_true rfl) ?_
  intro p e s m args below meth c X hret hlk hnm
  unfold f_M_shrink at hf
  refine r_iconst (v := 0) X d_M_shrink_0 (by decide) ?_
  refine r_istore_n (lv' := [(0, tR v0), (1, tI 0)]) X [1, 0] d_M_shrink_1 rfl (Nat.le_of_ble_eq_true rfl) rfl ?_
  refine r_widen (kc2 := 0) (ks2 := 0) (Nat.le_of_ble_eq_true rfl) (Nat.le_of_ble_eq_true rfl) ?_
  refine r_sub [0, 1] (lv' := [(0, tR v0), (1, tI 0)]) rfl ?_
  exact b_M_shrink_2 X hret hlk hnm n   n v0 0 σ0 hf

def f_M_climb_340 (n : Nat)  (v0 : Option Nat) (σ : Hp) : Option Hp :=
  Option.bind (is_O σ v0 11) fun x60 =>
  Option.bind (f_M_lower n v0 σ) fun σ62 =>
  some σ62
set_option maxRecDepth 100000 in
theorem b_M_climb_340 {p : Program} {l : Launch} {e : Env} {s : State} {m : MethodId} {args : Array Value} {below : List Frame} {meth : Method} {c : Code} {DD : DT} {σ0 σz : Hp} (X : CX p s m args c prog_13_method_27_code 6 (dm σ0) DD y_M_climb.cls) (hret : meth.sig.returnType = none) (hlk : meth.locks = false) (hnm : meth.name = y_M_climb.name) (n : Nat)   (v0 : Option Nat) (σ : Hp) (hf : f_M_climb_340 n  v0 σ = some σz) : GG p l e rm_M_climb s m args below meth c 6 (dm σ0) DD (MQ below (Post DD σ0 none σz) args s rm_M_climb.cells rm_M_climb.slots (dm σ0)) 0 0 σ 340 [(0, tR v0)] [] := by
  unfold f_M_climb_340 at hf
  refine r_aload_n X d_M_climb_340 rfl 0 rfl ?_
  obtain ⟨x60, h59, hf⟩ := obind hf
  obtain ⟨σ62, h61, hf⟩ := obind hf
  refine r_callV (st := []) X [] (ci := 11) h59 (Nat.le_of_ble_eq_true rfl) q930 q932 sl32 (c_M_lower n v0 h61) q933 q11 y_M_lower_ok rfl ⟨Nat.le_of_ble_eq_true rfl, Nat.le_of_ble_eq_true rfl⟩ (Nat.le_of_ble_eq_true rfl) ⟨Nat.le_of_ble_eq_true rfl, Nat.le_of_ble_eq_true rfl⟩ d_M_climb_341 ?_
  cases hf
  refine r_widen (kc2 := rm_M_climb.cells) (ks2 := rm_M_climb.slots) (Nat.le_of_ble_eq_true rfl) (Nat.le_of_ble_eq_true rfl) ?_
  exact r_vret X hret hlk d_M_climb_344

def f_M_climb_308 (n : Nat)  : Nat → Option Nat → Hp → Option Hp
  | 0, _, _ => none
  | i + 1, v0, σ =>
    Option.bind (ld_I σ v0 11 36) fun x56 =>
    if x56 = 0 then
    (
      Option.bind (is_O σ v0 11) fun x64 =>
      pb (f_M_weightOf n v0 1 σ) fun x67 σ66 =>
      Option.bind (ld_I σ66 v0 11 32) fun x68 =>
      if x67 ≤ x68 then
      (
        f_M_climb_340 n  v0 σ66)
      else
      (
        Option.bind (is_O σ66 v0 11) fun x72 =>
        pb (f_M_earliest n v0 1 σ66) fun x75 σ74 =>
        Option.bind (is_O σ74 v0 11) fun x77 =>
        Option.bind (f_M_latest v0 x75 2 σ74) fun σ79 =>
        f_M_climb_308 n i v0 σ79))
    else
    (
      f_M_climb_340 n  v0 σ)
set_option maxRecDepth 100000 in
theorem b_M_climb_308 {p : Program} {l : Launch} {e : Env} {s : State} {m : MethodId} {args : Array Value} {below : List Frame} {meth : Method} {c : Code} {DD : DT} {σ0 σz : Hp} (X : CX p s m args c prog_13_method_27_code 6 (dm σ0) DD y_M_climb.cls) (hret : meth.sig.returnType = none) (hlk : meth.locks = false) (hnm : meth.name = y_M_climb.name) (n : Nat)   : ∀ (i : Nat) (v0 : Option Nat) (σ : Hp) (hf : f_M_climb_308 n  i v0 σ = some σz), GG p l e rm_M_climb s m args below meth c 6 (dm σ0) DD (MQ below (Post DD σ0 none σz) args s rm_M_climb.cells rm_M_climb.slots (dm σ0)) 0 0 σ 308 [(0, tR v0)] [] := by
  intro i
  induction i with
  | zero => intro v0 σ hf; cases hf
  | succ i ih =>
    intro v0 σ hf
    simp only [f_M_climb_308] at hf
    refine r_aload_n X d_M_climb_308 rfl 0 rfl ?_
    obtain ⟨x56, h57, hf⟩ := obind hf
    refine r_ld_I (ci := 11) (k := 36) X h57 (Nat.le_of_ble_eq_true rfl) (Nat.le_of_ble_eq_true rfl) (Or.inr rfl) rfl q740 d_M_climb_309 ?_
    refine r_if_ne (tgt := 340) X d_M_climb_312 (by decide) (fun hc58 => ?_) (fun hc58 => ?_)
    · have hf := (if_neg hc58).symm.trans hf
      refine r_widen (kc2 := 0) (ks2 := 0) (Nat.le_of_ble_eq_true rfl) (Nat.le_of_ble_eq_true rfl) ?_
      refine r_sub [0] (lv' := [(0, tR v0)]) rfl ?_
      exact b_M_climb_340 X hret hlk hnm n   v0 σ hf
    · have hf := (if_pos hc58).symm.trans hf
      refine r_aload_n X d_M_climb_315 rfl 0 rfl ?_
      refine r_iconst (v := 1) X d_M_climb_316 (by decide) ?_
      obtain ⟨x64, h63, hf⟩ := obind hf
      obtain ⟨x67, σ66, h65, hf⟩ := pbind hf
      refine r_callV (st := []) X [tI 1] (ci := 11) h63 (Nat.le_of_ble_eq_true rfl) q934 q936 sl33 (c_M_weightOf n v0 1 h65) q937 q11 y_M_weightOf_ok rfl ⟨Nat.le_of_ble_eq_true rfl, Nat.le_of_ble_eq_true rfl⟩ (Nat.le_of_ble_eq_true rfl) ⟨Nat.le_of_ble_eq_true rfl, Nat.le_of_ble_eq_true rfl⟩ d_M_climb_317 ?_
      refine r_aload_n X d_M_climb_320 rfl 0 rfl ?_
      obtain ⟨x68, h69, hf⟩ := obind hf
      refine r_ld_I (ci := 11) (k := 32) X h69 (Nat.le_of_ble_eq_true rfl) (Nat.le_of_ble_eq_true rfl) (Or.inl rfl) rfl q736 d_M_climb_321 ?_
      refine r_icmp_le (tgt := 340) X d_M_climb_324 (by decide) (fun hc70 => ?_) (fun hc70 => ?_)
      · have hf := (if_pos hc70).symm.trans hf
        refine r_widen (kc2 := 0) (ks2 := 0) (Nat.le_of_ble_eq_true rfl) (Nat.le_of_ble_eq_true rfl) ?_
        refine r_sub [0] (lv' := [(0, tR v0)]) rfl ?_
        exact b_M_climb_340 X hret hlk hnm n   v0 σ66 hf
      · have hf := (if_neg hc70).symm.trans hf
        refine r_aload_n X d_M_climb_327 rfl 0 rfl ?_
        refine r_aload_n X d_M_climb_328 rfl 0 rfl ?_
        refine r_iconst (v := 1) X d_M_climb_329 (by decide) ?_
        obtain ⟨x72, h71, hf⟩ := obind hf
        obtain ⟨x75, σ74, h73, hf⟩ := pbind hf
        refine r_callV (st := [tR v0]) X [tI 1] (ci := 11) h71 (Nat.le_of_ble_eq_true rfl) q938 q940 sl34 (c_M_earliest n v0 1 h73) q941 q11 y_M_earliest_ok rfl ⟨Nat.le_of_ble_eq_true rfl, Nat.le_of_ble_eq_true rfl⟩ (Nat.le_of_ble_eq_true rfl) ⟨Nat.le_of_ble_eq_true rfl, Nat.le_of_ble_eq_true rfl⟩ d_M_climb_330 ?_
        refine r_iconst (v := 2) X d_M_climb_333 (by decide) ?_
        obtain ⟨x77, h76, hf⟩ := obind hf
        obtain ⟨σ79, h78, hf⟩ := obind hf
        refine r_callV (st := []) X [tI x75, tI 2] (ci := 11) h76 (Nat.le_of_ble_eq_true rfl) q926 q928 sl31 (c_M_latest v0 x75 2 h78) q929 q11 y_M_latest_ok rfl ⟨Nat.le_of_ble_eq_true rfl, Nat.le_of_ble_eq_true rfl⟩ (Nat.le_of_ble_eq_true rfl) ⟨Nat.le_of_ble_eq_true rfl, Nat.le_of_ble_eq_true rfl⟩ d_M_climb_334 ?_
        refine r_goto (tgt := 308) X d_M_climb_337 (by decide) ?_
        refine r_widen (kc2 := 0) (ks2 := 0) (Nat.le_of_ble_eq_true rfl) (Nat.le_of_ble_eq_true rfl) ?_
        refine r_sub [0] (lv' := [(0, tR v0)]) rfl ?_
        exact ih v0 σ79 hf

def f_M_climb_305 (n : Nat) (rec231 : Option Nat → Int32 → Hp → Option Hp) (v0 : Option Nat) (v4 : Int32) (σ : Hp) : Option Hp :=
  rec231 v0 v4 σ
set_option maxRecDepth 100000 in
theorem b_M_climb_305 {p : Program} {l : Launch} {e : Env} {s : State} {m : MethodId} {args : Array Value} {below : List Frame} {meth : Method} {c : Code} {DD : DT} {σ0 σz : Hp} (X : CX p s m args c prog_13_method_27_code 6 (dm σ0) DD y_M_climb.cls) (hret : meth.sig.returnType = none) (hlk : meth.locks = false) (hnm : meth.name = y_M_climb.name) (n : Nat) (rec231 : Option Nat → Int32 → Hp → Option Hp) (hrec231 : ∀ (v0 : Option Nat) (v4 : Int32) (σ : Hp), rec231 v0 v4 σ = some σz → GG p l e rm_M_climb s m args below meth c 6 (dm σ0) DD (MQ below (Post DD σ0 none σz) args s rm_M_climb.cells rm_M_climb.slots (dm σ0)) 0 0 σ 231 [(0, tR v0), (4, tI v4)] []) (v0 : Option Nat) (v4 : Int32) (σ : Hp) (hf : f_M_climb_305 n rec231 v0 v4 σ = some σz) : GG p l e rm_M_climb s m args below meth c 6 (dm σ0) DD (MQ below (Post DD σ0 none σz) args s rm_M_climb.cells rm_M_climb.slots (dm σ0)) 0 0 σ 305 [(0, tR v0), (4, tI v4)] [] := by
  unfold f_M_climb_305 at hf
  refine r_goto (tgt := 231) X d_M_climb_305 (by decide) ?_
  refine r_widen (kc2 := 0) (ks2 := 0) (Nat.le_of_ble_eq_true rfl) (Nat.le_of_ble_eq_true rfl) ?_
  refine r_sub [0, 1] (lv' := [(0, tR v0), (4, tI v4)]) rfl ?_
  exact hrec231 v0 v4 σ hf

def f_M_climb_291 (n : Nat) (rec231 : Option Nat → Int32 → Hp → Option Hp) (v0 : Option Nat) (v5 : Int32) (w0 : Int32) (σ : Hp) : Option Hp :=
  if w0 = 0 then
  (
    f_M_climb_305 n rec231 v0 w0 σ)
  else
  (
    Option.bind (is_O σ v0 11) fun x94 =>
    Option.bind (f_M_latest v0 v5 1 σ) fun σ96 =>
    f_M_climb_305 n rec231 v0 w0 σ96)
set_option maxRecDepth 100000 in
theorem b_M_climb_291 {p : Program} {l : Launch} {e : Env} {s : State} {m : MethodId} {args : Array Value} {below : List Frame} {meth : Method} {c : Code} {DD : DT} {σ0 σz : Hp} (X : CX p s m args c prog_13_method_27_code 6 (dm σ0) DD y_M_climb.cls) (hret : meth.sig.returnType = none) (hlk : meth.locks = false) (hnm : meth.name = y_M_climb.name) (n : Nat) (rec231 : Option Nat → Int32 → Hp → Option Hp) (hrec231 : ∀ (v0 : Option Nat) (v4 : Int32) (σ : Hp), rec231 v0 v4 σ = some σz → GG p l e rm_M_climb s m args below meth c 6 (dm σ0) DD (MQ below (Post DD σ0 none σz) args s rm_M_climb.cells rm_M_climb.slots (dm σ0)) 0 0 σ 231 [(0, tR v0), (4, tI v4)] []) (v0 : Option Nat) (v5 : Int32) (w0 : Int32) (σ : Hp) (hf : f_M_climb_291 n rec231 v0 v5 w0 σ = some σz) : GG p l e rm_M_climb s m args below meth c 6 (dm σ0) DD (MQ below (Post DD σ0 none σz) args s rm_M_climb.cells rm_M_climb.slots (dm σ0)) 0 0 σ 291 [(0, tR v0), (5, tI v5)] [tI w0] := by
  unfold f_M_climb_291 at hf
  refine r_istore (lv' := [(0, tR v0), (4, tI w0), (5, tI v5)]) X [1, 0, 2] d_M_climb_291 (Nat.le_of_ble_eq_true rfl) rfl ?_
  refine r_iload X d_M_climb_293 1 rfl ?_
  refine r_if_eq (tgt := 305) X d_M_climb_295 (by decide) (fun hc92 => ?_) (fun hc92 => ?_)
  · have hf := (if_pos hc92).symm.trans hf
    refine r_widen (kc2 := 0) (ks2 := 0) (Nat.le_of_ble_eq_true rfl) (Nat.le_of_ble_eq_true rfl) ?_
    refine r_sub [0, 1] (lv' := [(0, tR v0), (4, tI w0)]) rfl ?_
    exact b_M_climb_305 X hret hlk hnm n rec231 hrec231 v0 w0 σ hf
  · have hf := (if_neg hc92).symm.trans hf
    refine r_aload_n X d_M_climb_298 rfl 0 rfl ?_
    refine r_iload X d_M_climb_299 2 rfl ?_
    refine r_iconst (v := 1) X d_M_climb_301 (by decide) ?_
    obtain ⟨x94, h93, hf⟩ := obind hf
    obtain ⟨σ96, h95, hf⟩ := obind hf
    refine r_callV (st := []) X [tI v5, tI 1] (ci := 11) h93 (Nat.le_of_ble_eq_true rfl) q926 q928 sl31 (c_M_latest v0 v5 1 h95) q929 q11 y_M_latest_ok rfl ⟨Nat.le_of_ble_eq_true rfl, Nat.le_of_ble_eq_true rfl⟩ (Nat.le_of_ble_eq_true rfl) ⟨Nat.le_of_ble_eq_true rfl, Nat.le_of_ble_eq_true rfl⟩ d_M_climb_302 ?_
    refine r_widen (kc2 := 0) (ks2 := 0) (Nat.le_of_ble_eq_true rfl) (Nat.le_of_ble_eq_true rfl) ?_
    refine r_sub [0, 1] (lv' := [(0, tR v0), (4, tI w0)]) rfl ?_
    exact b_M_climb_305 X hret hlk hnm n rec231 hrec231 v0 w0 σ96 hf

def f_M_climb_290 (n : Nat) (rec231 : Option Nat → Int32 → Hp → Option Hp) (v0 : Option Nat) (v5 : Int32) (σ : Hp) : Option Hp :=
  f_M_climb_291 n rec231 v0 v5 0 σ
set_option maxRecDepth 100000 in
theorem b_M_climb_290 {p : Program} {l : Launch} {e : Env} {s : State} {m : MethodId} {args : Array Value} {below : List Frame} {meth : Method} {c : Code} {DD : DT} {σ0 σz : Hp} (X : CX p s m args c prog_13_method_27_code 6 (dm σ0) DD y_M_climb.cls) (hret : meth.sig.returnType = none) (hlk : meth.locks = false) (hnm : meth.name = y_M_climb.name) (n : Nat) (rec231 : Option Nat → Int32 → Hp → Option Hp) (hrec231 : ∀ (v0 : Option Nat) (v4 : Int32) (σ : Hp), rec231 v0 v4 σ = some σz → GG p l e rm_M_climb s m args below meth c 6 (dm σ0) DD (MQ below (Post DD σ0 none σz) args s rm_M_climb.cells rm_M_climb.slots (dm σ0)) 0 0 σ 231 [(0, tR v0), (4, tI v4)] []) (v0 : Option Nat) (v5 : Int32) (σ : Hp) (hf : f_M_climb_290 n rec231 v0 v5 σ = some σz) : GG p l e rm_M_climb s m args below meth c 6 (dm σ0) DD (MQ below (Post DD σ0 none σz) args s rm_M_climb.cells rm_M_climb.slots (dm σ0)) 0 0 σ 290 [(0, tR v0), (5, tI v5)] [] := by
  unfold f_M_climb_290 at hf
  refine r_iconst (v := 0) X d_M_climb_290 (by decide) ?_
  refine r_widen (kc2 := 0) (ks2 := 0) (Nat.le_of_ble_eq_true rfl) (Nat.le_of_ble_eq_true rfl) ?_
  refine r_sub [0, 1] (lv' := [(0, tR v0), (5, tI v5)]) rfl ?_
  exact b_M_climb_291 X hret hlk hnm n rec231 hrec231 v0 v5 0 σ hf

def f_M_climb_258 (n : Nat) (rec231 : Option Nat → Int32 → Hp → Option Hp) (v0 : Option Nat) (w0 : Int32) (σ : Hp) : Option Hp :=
  if w0 = ((-1)) then
  (
    f_M_climb_290 n rec231 v0 w0 σ)
  else
  (
    Option.bind (is_O σ v0 11) fun x98 =>
    pb (f_M_weightOf n v0 1 σ) fun x101 σ100 =>
    Option.bind (ld_R σ100 v0 11 13) fun x102 =>
    Option.bind (al_I σ100 0 x102 w0) fun x104 =>
    Option.bind (ld_I σ100 v0 11 32) fun x106 =>
    if x106 < (x101 + x104) then
    (
      f_M_climb_290 n rec231 v0 w0 σ100)
    else
    (
      f_M_climb_291 n rec231 v0 w0 1 σ100))
set_option maxRecDepth 100000 in
theorem b_M_climb_258 {p : Program} {l : Launch} {e : Env} {s : State} {m : MethodId} {args : Array Value} {below : List Frame} {meth : Method} {c : Code} {DD : DT} {σ0 σz : Hp} (X : CX p s m args c prog_13_method_27_code 6 (dm σ0) DD y_M_climb.cls) (hret : meth.sig.returnType = none) (hlk : meth.locks = false) (hnm : meth.name = y_M_climb.name) (n : Nat) (rec231 : Option Nat → Int32 → Hp → Option Hp) (hrec231 : ∀ (v0 : Option Nat) (v4 : Int32) (σ : Hp), rec231 v0 v4 σ = some σz → GG p l e rm_M_climb s m args below meth c 6 (dm σ0) DD (MQ below (Post DD σ0 none σz) args s rm_M_climb.cells rm_M_climb.slots (dm σ0)) 0 0 σ 231 [(0, tR v0), (4, tI v4)] []) (v0 : Option Nat) (w0 : Int32) (σ : Hp) (hf : f_M_climb_258 n rec231 v0 w0 σ = some σz) : GG p l e rm_M_climb s m args below meth c 6 (dm σ0) DD (MQ below (Post DD σ0 none σz) args s rm_M_climb.cells rm_M_climb.slots (dm σ0)) 0 0 σ 258 [(0, tR v0)] [tI w0] := by
  unfold f_M_climb_258 at hf
  refine r_istore (lv' := [(0, tR v0), (5, tI w0)]) X [1, 0] d_M_climb_258 (Nat.le_of_ble_eq_true rfl) rfl ?_
  refine r_iload X d_M_climb_260 1 rfl ?_
  refine r_iconst (v := -1) X d_M_climb_262 (by decide) ?_
  refine r_icmp_eq (tgt := 290) X d_M_climb_263 (by decide) (fun hc91 => ?_) (fun hc91 => ?_)
  · have hf := (if_pos hc91).symm.trans hf
    refine r_widen (kc2 := 0) (ks2 := 0) (Nat.le_of_ble_eq_true rfl) (Nat.le_of_ble_eq_true rfl) ?_
    refine r_sub [0, 1] (lv' := [(0, tR v0), (5, tI w0)]) rfl ?_
    exact b_M_climb_290 X hret hlk hnm n rec231 hrec231 v0 w0 σ hf
  · have hf := (if_neg hc91).symm.trans hf
    refine r_aload_n X d_M_climb_266 rfl 0 rfl ?_
    refine r_iconst (v := 1) X d_M_climb_267 (by decide) ?_
    obtain ⟨x98, h97, hf⟩ := obind hf
    obtain ⟨x101, σ100, h99, hf⟩ := pbind hf
    refine r_callV (st := []) X [tI 1] (ci := 11) h97 (Nat.le_of_ble_eq_true rfl) q934 q936 sl33 (c_M_weightOf n v0 1 h99) q937 q11 y_M_weightOf_ok rfl ⟨Nat.le_of_ble_eq_true rfl, Nat.le_of_ble_eq_true rfl⟩ (Nat.le_of_ble_eq_true rfl) ⟨Nat.le_of_ble_eq_true rfl, Nat.le_of_ble_eq_true rfl⟩ d_M_climb_268 ?_
    refine r_aload_n X d_M_climb_271 rfl 0 rfl ?_
    obtain ⟨x102, h103, hf⟩ := obind hf
    refine r_ld_R (ci := 11) (k := 13) X h103 (Nat.le_of_ble_eq_true rfl) (Nat.le_of_ble_eq_true rfl) rfl rfl q717 d_M_climb_272 ?_
    refine r_iload X d_M_climb_275 1 rfl ?_
    obtain ⟨x104, h105, hf⟩ := obind hf
    refine r_al_I X h105 d_M_climb_277 ?_
    refine r_iadd X d_M_climb_278 ?_
    refine r_aload_n X d_M_climb_279 rfl 0 rfl ?_
    obtain ⟨x106, h107, hf⟩ := obind hf
    refine r_ld_I (ci := 11) (k := 32) X h107 (Nat.le_of_ble_eq_true rfl) (Nat.le_of_ble_eq_true rfl) (Or.inl rfl) rfl q736 d_M_climb_280 ?_
    refine r_icmp_gt (tgt := 290) X d_M_climb_283 (by decide) (fun hc108 => ?_) (fun hc108 => ?_)
    · have hf := (if_pos hc108).symm.trans hf
      refine r_widen (kc2 := 0) (ks2 := 0) (Nat.le_of_ble_eq_true rfl) (Nat.le_of_ble_eq_true rfl) ?_
      refine r_sub [0, 1] (lv' := [(0, tR v0), (5, tI w0)]) rfl ?_
      exact b_M_climb_290 X hret hlk hnm n rec231 hrec231 v0 w0 σ100 hf
    · have hf := (if_neg hc108).symm.trans hf
      refine r_iconst (v := 1) X d_M_climb_286 (by decide) ?_
      refine r_goto (tgt := 291) X d_M_climb_287 (by decide) ?_
      refine r_widen (kc2 := 0) (ks2 := 0) (Nat.le_of_ble_eq_true rfl) (Nat.le_of_ble_eq_true rfl) ?_
      refine r_sub [0, 1] (lv' := [(0, tR v0), (5, tI w0)]) rfl ?_
      exact b_M_climb_291 X hret hlk hnm n rec231 hrec231 v0 w0 1 σ100 hf

def f_M_climb_231 (n : Nat)  : Nat → Option Nat → Int32 → Hp → Option Hp
  | 0, _, _, _ => none
  | i + 1, v0, v4, σ =>
    if v4 = 0 then
    (
      f_M_climb_308 n  n v0 σ)
    else
    (
      Option.bind (is_O σ v0 11) fun x81 =>
      pb (f_M_earliest n v0 2 σ) fun x84 σ83 =>
      if x84 = ((-1)) then
      (
        Option.bind (is_O σ83 v0 11) fun x87 =>
        pb (f_M_earliest n v0 3 σ83) fun x90 σ89 =>
        f_M_climb_258 n (f_M_climb_231 n i) v0 x90 σ89)
      else
      (
        Option.bind (is_O σ83 v0 11) fun x110 =>
        pb (f_M_earliest n v0 2 σ83) fun x113 σ112 =>
        f_M_climb_258 n (f_M_climb_231 n i) v0 x113 σ112))
set_option maxRecDepth 100000 in
theorem b_M_climb_231 {p : Program} {l : Launch} {e : Env} {s : State} {m : MethodId} {args : Array Value} {below : List Frame} {meth : Method} {c : Code} {DD : DT} {σ0 σz : Hp} (X : CX p s m args c prog_13_method_27_code 6 (dm σ0) DD y_M_climb.cls) (hret : meth.sig.returnType = none) (hlk : meth.locks = false) (hnm : meth.name = y_M_climb.name) (n : Nat)   : ∀ (i : Nat) (v0 : Option Nat) (v4 : Int32) (σ : Hp) (hf : f_M_climb_231 n  i v0 v4 σ = some σz), GG p l e rm_M_climb s m args below meth c 6 (dm σ0) DD (MQ below (Post DD σ0 none σz) args s rm_M_climb.cells rm_M_climb.slots (dm σ0)) 0 0 σ 231 [(0, tR v0), (4, tI v4)] [] := by
  intro i
  induction i with
  | zero => intro v0 v4 σ hf; cases hf
  | succ i ih =>
    intro v0 v4 σ hf
    simp only [f_M_climb_231] at hf
    refine r_iload X d_M_climb_231 1 rfl ?_
    refine r_if_eq (tgt := 308) X d_M_climb_233 (by decide) (fun hc55 => ?_) (fun hc55 => ?_)
    · have hf := (if_pos hc55).symm.trans hf
      refine r_widen (kc2 := 0) (ks2 := 0) (Nat.le_of_ble_eq_true rfl) (Nat.le_of_ble_eq_true rfl) ?_
      refine r_sub [0] (lv' := [(0, tR v0)]) rfl ?_
      exact b_M_climb_308 X hret hlk hnm n   n v0 σ hf
    · have hf := (if_neg hc55).symm.trans hf
      refine r_aload_n X d_M_climb_236 rfl 0 rfl ?_
      refine r_iconst (v := 2) X d_M_climb_237 (by decide) ?_
      obtain ⟨x81, h80, hf⟩ := obind hf
      obtain ⟨x84, σ83, h82, hf⟩ := pbind hf
      refine r_callV (st := []) X [tI 2] (ci := 11) h80 (Nat.le_of_ble_eq_true rfl) q938 q940 sl34 (c_M_earliest n v0 2 h82) q941 q11 y_M_earliest_ok rfl ⟨Nat.le_of_ble_eq_true rfl, Nat.le_of_ble_eq_true rfl⟩ (Nat.le_of_ble_eq_true rfl) ⟨Nat.le_of_ble_eq_true rfl, Nat.le_of_ble_eq_true rfl⟩ d_M_climb_238 ?_
      refine r_iconst (v := -1) X d_M_climb_241 (by decide) ?_
      refine r_icmp_eq (tgt := 253) X d_M_climb_242 (by decide) (fun hc85 => ?_) (fun hc85 => ?_)
      · have hf := (if_pos hc85).symm.trans hf
        refine r_aload_n X d_M_climb_253 rfl 0 rfl ?_
        refine r_iconst (v := 3) X d_M_climb_254 (by decide) ?_
        obtain ⟨x87, h86, hf⟩ := obind hf
        obtain ⟨x90, σ89, h88, hf⟩ := pbind hf
        refine r_callV (st := []) X [tI 3] (ci := 11) h86 (Nat.le_of_ble_eq_true rfl) q938 q940 sl34 (c_M_earliest n v0 3 h88) q941 q11 y_M_earliest_ok rfl ⟨Nat.le_of_ble_eq_true rfl, Nat.le_of_ble_eq_true rfl⟩ (Nat.le_of_ble_eq_true rfl) ⟨Nat.le_of_ble_eq_true rfl, Nat.le_of_ble_eq_true rfl⟩ d_M_climb_255 ?_
        refine r_widen (kc2 := 0) (ks2 := 0) (Nat.le_of_ble_eq_true rfl) (Nat.le_of_ble_eq_true rfl) ?_
        refine r_sub [0] (lv' := [(0, tR v0)]) rfl ?_
        exact b_M_climb_258 X hret hlk hnm n (f_M_climb_231 n i) ih v0 x90 σ89 hf
      · have hf := (if_neg hc85).symm.trans hf
        refine r_aload_n X d_M_climb_245 rfl 0 rfl ?_
        refine r_iconst (v := 2) X d_M_climb_246 (by decide) ?_
        obtain ⟨x110, h109, hf⟩ := obind hf
        obtain ⟨x113, σ112, h111, hf⟩ := pbind hf
        refine r_callV (st := []) X [tI 2] (ci := 11) h109 (Nat.le_of_ble_eq_true rfl) q938 q940 sl34 (c_M_earliest n v0 2 h111) q941 q11 y_M_earliest_ok rfl ⟨Nat.le_of_ble_eq_true rfl, Nat.le_of_ble_eq_true rfl⟩ (Nat.le_of_ble_eq_true rfl) ⟨Nat.le_of_ble_eq_true rfl, Nat.le_of_ble_eq_true rfl⟩ d_M_climb_247 ?_
        refine r_goto (tgt := 258) X d_M_climb_250 (by decide) ?_
        refine r_widen (kc2 := 0) (ks2 := 0) (Nat.le_of_ble_eq_true rfl) (Nat.le_of_ble_eq_true rfl) ?_
        refine r_sub [0] (lv' := [(0, tR v0)]) rfl ?_
        exact b_M_climb_258 X hret hlk hnm n (f_M_climb_231 n i) ih v0 x113 σ112 hf

def f_M_climb_222 (n : Nat)  (v0 : Option Nat) (w0 : Int32) (w1 : Option Nat) (σ : Hp) : Option Hp :=
  Option.bind (st_I σ w1 11 32 w0) fun σ51 =>
  Option.bind (ld_I σ51 v0 11 36) fun x53 =>
  f_M_climb_231 n  n v0 x53 σ51
set_option maxRecDepth 100000 in
theorem b_M_climb_222 {p : Program} {l : Launch} {e : Env} {s : State} {m : MethodId} {args : Array Value} {below : List Frame} {meth : Method} {c : Code} {DD : DT} {σ0 σz : Hp} (X : CX p s m args c prog_13_method_27_code 6 (dm σ0) DD y_M_climb.cls) (hret : meth.sig.returnType = none) (hlk : meth.locks = false) (hnm : meth.name = y_M_climb.name) (n : Nat)   (v0 : Option Nat) (w0 : Int32) (w1 : Option Nat) (σ : Hp) (hf : f_M_climb_222 n  v0 w0 w1 σ = some σz) : GG p l e rm_M_climb s m args below meth c 6 (dm σ0) DD (MQ below (Post DD σ0 none σz) args s rm_M_climb.cells rm_M_climb.slots (dm σ0)) 0 0 σ 222 [(0, tR v0)] [tI w0, tR w1] := by
  unfold f_M_climb_222 at hf
  obtain ⟨σ51, h52, hf⟩ := obind hf
  refine r_st_I (ci := 11) (k := 32) X h52 (Nat.le_of_ble_eq_true rfl) (Nat.le_of_ble_eq_true rfl) rfl rfl rfl q736 d_M_climb_222 ?_
  refine r_aload_n X d_M_climb_225 rfl 0 rfl ?_
  obtain ⟨x53, h54, hf⟩ := obind hf
  refine r_ld_I (ci := 11) (k := 36) X h54 (Nat.le_of_ble_eq_true rfl) (Nat.le_of_ble_eq_true rfl) (Or.inr rfl) rfl q740 d_M_climb_226 ?_
  refine r_istore (lv' := [(0, tR v0), (4, tI x53)]) X [1, 0] d_M_climb_229 (Nat.le_of_ble_eq_true rfl) rfl ?_
  refine r_widen (kc2 := 0) (ks2 := 0) (Nat.le_of_ble_eq_true rfl) (Nat.le_of_ble_eq_true rfl) ?_
  refine r_sub [0, 1] (lv' := [(0, tR v0), (4, tI x53)]) rfl ?_
  exact b_M_climb_231 X hret hlk hnm n   n v0 x53 σ51 hf

def f_M_climb_202 (n : Nat)  (v0 : Option Nat) (w0 : Int32) (w1 : Option Nat) (σ : Hp) : Option Hp :=
  Option.bind (st_I σ w1 11 32 w0) fun σ44 =>
  Option.bind (ld_I σ44 v0 11 32) fun x46 =>
  if 1 ≤ x46 then
  (
    Option.bind (ld_I σ44 v0 11 32) fun x49 =>
    f_M_climb_222 n  v0 x49 v0 σ44)
  else
  (
    f_M_climb_222 n  v0 1 v0 σ44)
set_option maxRecDepth 100000 in
theorem b_M_climb_202 {p : Program} {l : Launch} {e : Env} {s : State} {m : MethodId} {args : Array Value} {below : List Frame} {meth : Method} {c : Code} {DD : DT} {σ0 σz : Hp} (X : CX p s m args c prog_13_method_27_code 6 (dm σ0) DD y_M_climb.cls) (hret : meth.sig.returnType = none) (hlk : meth.locks = false) (hnm : meth.name = y_M_climb.name) (n : Nat)   (v0 : Option Nat) (w0 : Int32) (w1 : Option Nat) (σ : Hp) (hf : f_M_climb_202 n  v0 w0 w1 σ = some σz) : GG p l e rm_M_climb s m args below meth c 6 (dm σ0) DD (MQ below (Post DD σ0 none σz) args s rm_M_climb.cells rm_M_climb.slots (dm σ0)) 0 0 σ 202 [(0, tR v0)] [tI w0, tR w1] := by
  unfold f_M_climb_202 at hf
  obtain ⟨σ44, h45, hf⟩ := obind hf
  refine r_st_I (ci := 11) (k := 32) X h45 (Nat.le_of_ble_eq_true rfl) (Nat.le_of_ble_eq_true rfl) rfl rfl rfl q736 d_M_climb_202 ?_
  refine r_aload_n X d_M_climb_205 rfl 0 rfl ?_
  refine r_aload_n X d_M_climb_206 rfl 0 rfl ?_
  obtain ⟨x46, h47, hf⟩ := obind hf
  refine r_ld_I (ci := 11) (k := 32) X h47 (Nat.le_of_ble_eq_true rfl) (Nat.le_of_ble_eq_true rfl) (Or.inl rfl) rfl q736 d_M_climb_207 ?_
  refine r_iconst (v := 1) X d_M_climb_210 (by decide) ?_
  refine r_icmp_ge (tgt := 218) X d_M_climb_211 (by decide) (fun hc48 => ?_) (fun hc48 => ?_)
  · have hf := (if_pos hc48).symm.trans hf
    refine r_aload_n X d_M_climb_218 rfl 0 rfl ?_
    obtain ⟨x49, h50, hf⟩ := obind hf
    refine r_ld_I (ci := 11) (k := 32) X h50 (Nat.le_of_ble_eq_true rfl) (Nat.le_of_ble_eq_true rfl) (Or.inl rfl) rfl q736 d_M_climb_219 ?_
    refine r_widen (kc2 := 0) (ks2 := 0) (Nat.le_of_ble_eq_true rfl) (Nat.le_of_ble_eq_true rfl) ?_
    refine r_sub [0] (lv' := [(0, tR v0)]) rfl ?_
    exact b_M_climb_222 X hret hlk hnm n   v0 x49 v0 σ44 hf
  · have hf := (if_neg hc48).symm.trans hf
    refine r_iconst (v := 1) X d_M_climb_214 (by decide) ?_
    refine r_goto (tgt := 222) X d_M_climb_215 (by decide) ?_
    refine r_widen (kc2 := 0) (ks2 := 0) (Nat.le_of_ble_eq_true rfl) (Nat.le_of_ble_eq_true rfl) ?_
    refine r_sub [0] (lv' := [(0, tR v0)]) rfl ?_
    exact b_M_climb_222 X hret hlk hnm n   v0 1 v0 σ44 hf

def f_M_climb_137 (n : Nat)  (v0 : Option Nat) (v1 : Int32) (v2 : Int32) (w0 : Int32) (w1 : Option Nat) (σ : Hp) : Option Hp :=
  Option.bind (st_I σ w1 11 33 w0) fun σ31 =>
  Option.bind (st_I σ31 v0 11 34 v1) fun σ33 =>
  Option.bind (st_I σ33 v0 11 39 0) fun σ35 =>
  Option.bind (st_I σ35 v0 11 40 0) fun σ37 =>
  Option.bind (ld_I σ37 v0 11 36) fun x39 =>
  if x39 = 0 then
  (
    Option.bind (ld_I σ37 v0 11 32) fun x42 =>
    f_M_climb_202 n  v0 (x42 - v2) v0 σ37)
  else
  (
    Option.bind (ld_I σ37 v0 11 32) fun x114 =>
    Option.bind (ld_I σ37 v0 11 1) fun x116 =>
    if (x114 + v2) ≤ (x116 - 1) then
    (
      Option.bind (ld_I σ37 v0 11 32) fun x119 =>
      f_M_climb_202 n  v0 (x119 + v2) v0 σ37)
    else
    (
      Option.bind (ld_I σ37 v0 11 1) fun x121 =>
      f_M_climb_202 n  v0 (x121 - 1) v0 σ37))
set_option maxRecDepth 100000 in
theorem b_M_climb_137 {p : Program} {l : Launch} {e : Env} {s : State} {m : MethodId} {args : Array Value} {below : List Frame} {meth : Method} {c : Code} {DD : DT} {σ0 σz : Hp} (X : CX p s m args c prog_13_method_27_code 6 (dm σ0) DD y_M_climb.cls) (hret : meth.sig.returnType = none) (hlk : meth.locks = false) (hnm : meth.name = y_M_climb.name) (n : Nat)   (v0 : Option Nat) (v1 : Int32) (v2 : Int32) (w0 : Int32) (w1 : Option Nat) (σ : Hp) (hf : f_M_climb_137 n  v0 v1 v2 w0 w1 σ = some σz) : GG p l e rm_M_climb s m args below meth c 6 (dm σ0) DD (MQ below (Post DD σ0 none σz) args s rm_M_climb.cells rm_M_climb.slots (dm σ0)) 0 0 σ 137 [(0, tR v0), (1, tI v1), (2, tI v2)] [tI w0, tR w1] := by
  unfold f_M_climb_137 at hf
  obtain ⟨σ31, h32, hf⟩ := obind hf
  refine r_st_I (ci := 11) (k := 33) X h32 (Nat.le_of_ble_eq_true rfl) (Nat.le_of_ble_eq_true rfl) rfl rfl rfl q737 d_M_climb_137 ?_
  refine r_aload_n X d_M_climb_140 rfl 0 rfl ?_
  refine r_iload_n X d_M_climb_141 rfl 1 rfl ?_
  obtain ⟨σ33, h34, hf⟩ := obind hf
  refine r_st_I (ci := 11) (k := 34) X h34 (Nat.le_of_ble_eq_true rfl) (Nat.le_of_ble_eq_true rfl) rfl rfl rfl q738 d_M_climb_142 ?_
  refine r_aload_n X d_M_climb_145 rfl 0 rfl ?_
  refine r_iconst (v := 0) X d_M_climb_146 (by decide) ?_
  obtain ⟨σ35, h36, hf⟩ := obind hf
  refine r_st_I (ci := 11) (k := 39) X h36 (Nat.le_of_ble_eq_true rfl) (Nat.le_of_ble_eq_true rfl) rfl rfl rfl q743 d_M_climb_147 ?_
  refine r_aload_n X d_M_climb_150 rfl 0 rfl ?_
  refine r_iconst (v := 0) X d_M_climb_151 (by decide) ?_
  obtain ⟨σ37, h38, hf⟩ := obind hf
  refine r_st_I (ci := 11) (k := 40) X h38 (Nat.le_of_ble_eq_true rfl) (Nat.le_of_ble_eq_true rfl) rfl rfl rfl q744 d_M_climb_152 ?_
  refine r_aload_n X d_M_climb_155 rfl 0 rfl ?_
  refine r_aload_n X d_M_climb_156 rfl 0 rfl ?_
  obtain ⟨x39, h40, hf⟩ := obind hf
  refine r_ld_I (ci := 11) (k := 36) X h40 (Nat.le_of_ble_eq_true rfl) (Nat.le_of_ble_eq_true rfl) (Or.inr rfl) rfl q740 d_M_climb_157 ?_
  refine r_if_eq (tgt := 196) X d_M_climb_160 (by decide) (fun hc41 => ?_) (fun hc41 => ?_)
  · have hf := (if_pos hc41).symm.trans hf
    refine r_aload_n X d_M_climb_196 rfl 0 rfl ?_
    obtain ⟨x42, h43, hf⟩ := obind hf
    refine r_ld_I (ci := 11) (k := 32) X h43 (Nat.le_of_ble_eq_true rfl) (Nat.le_of_ble_eq_true rfl) (Or.inl rfl) rfl q736 d_M_climb_197 ?_
    refine r_iload_n X d_M_climb_200 rfl 2 rfl ?_
    refine r_isub X d_M_climb_201 ?_
    refine r_widen (kc2 := 0) (ks2 := 0) (Nat.le_of_ble_eq_true rfl) (Nat.le_of_ble_eq_true rfl) ?_
    refine r_sub [0] (lv' := [(0, tR v0)]) rfl ?_
    exact b_M_climb_202 X hret hlk hnm n   v0 (x42 - v2) v0 σ37 hf
  · have hf := (if_neg hc41).symm.trans hf
    refine r_aload_n X d_M_climb_163 rfl 0 rfl ?_
    obtain ⟨x114, h115, hf⟩ := obind hf
    refine r_ld_I (ci := 11) (k := 32) X h115 (Nat.le_of_ble_eq_true rfl) (Nat.le_of_ble_eq_true rfl) (Or.inl rfl) rfl q736 d_M_climb_164 ?_
    refine r_iload_n X d_M_climb_167 rfl 2 rfl ?_
    refine r_iadd X d_M_climb_168 ?_
    refine r_aload_n X d_M_climb_169 rfl 0 rfl ?_
    obtain ⟨x116, h117, hf⟩ := obind hf
    refine r_ld_I (ci := 11) (k := 1) X h117 (Nat.le_of_ble_eq_true rfl) (Nat.le_of_ble_eq_true rfl) (Or.inl rfl) rfl q705 d_M_climb_170 ?_
    refine r_iconst (v := 1) X d_M_climb_173 (by decide) ?_
    refine r_isub X d_M_climb_174 ?_
    refine r_icmp_le (tgt := 187) X d_M_climb_175 (by decide) (fun hc118 => ?_) (fun hc118 => ?_)
    · have hf := (if_pos hc118).symm.trans hf
      refine r_aload_n X d_M_climb_187 rfl 0 rfl ?_
      obtain ⟨x119, h120, hf⟩ := obind hf
      refine r_ld_I (ci := 11) (k := 32) X h120 (Nat.le_of_ble_eq_true rfl) (Nat.le_of_ble_eq_true rfl) (Or.inl rfl) rfl q736 d_M_climb_188 ?_
      refine r_iload_n X d_M_climb_191 rfl 2 rfl ?_
      refine r_iadd X d_M_climb_192 ?_
      refine r_goto (tgt := 202) X d_M_climb_193 (by decide) ?_
      refine r_widen (kc2 := 0) (ks2 := 0) (Nat.le_of_ble_eq_true rfl) (Nat.le_of_ble_eq_true rfl) ?_
      refine r_sub [0] (lv' := [(0, tR v0)]) rfl ?_
      exact b_M_climb_202 X hret hlk hnm n   v0 (x119 + v2) v0 σ37 hf
    · have hf := (if_neg hc118).symm.trans hf
      refine r_aload_n X d_M_climb_178 rfl 0 rfl ?_
      obtain ⟨x121, h122, hf⟩ := obind hf
      refine r_ld_I (ci := 11) (k := 1) X h122 (Nat.le_of_ble_eq_true rfl) (Nat.le_of_ble_eq_true rfl) (Or.inl rfl) rfl q705 d_M_climb_179 ?_
      refine r_iconst (v := 1) X d_M_climb_182 (by decide) ?_
      refine r_isub X d_M_climb_183 ?_
      refine r_goto (tgt := 202) X d_M_climb_184 (by decide) ?_
      refine r_widen (kc2 := 0) (ks2 := 0) (Nat.le_of_ble_eq_true rfl) (Nat.le_of_ble_eq_true rfl) ?_
      refine r_sub [0] (lv' := [(0, tR v0)]) rfl ?_
      exact b_M_climb_202 X hret hlk hnm n   v0 (x121 - 1) v0 σ37 hf

def f_M_climb_94 (n : Nat)  (v0 : Option Nat) (v1 : Int32) (v2 : Int32) (w0 : Int32) (σ : Hp) : Option Hp :=
  if w0 < 50 then
  (
    Option.bind (ld_I σ v0 11 33) fun x26 =>
    if 1 ≤ ((x26 * 63) / 64) then
    (
      Option.bind (ld_I σ v0 11 33) fun x29 =>
      f_M_climb_137 n  v0 v1 v2 ((x29 * 63) / 64) v0 σ)
    else
    (
      f_M_climb_137 n  v0 v1 v2 1 v0 σ))
  else
  (
    Option.bind (is_O σ v0 11) fun x124 =>
    pb (f_M_firstStep v0 σ) fun x127 σ126 =>
    f_M_climb_137 n  v0 v1 v2 x127 v0 σ126)
set_option maxRecDepth 100000 in
theorem b_M_climb_94 {p : Program} {l : Launch} {e : Env} {s : State} {m : MethodId} {args : Array Value} {below : List Frame} {meth : Method} {c : Code} {DD : DT} {σ0 σz : Hp} (X : CX p s m args c prog_13_method_27_code 6 (dm σ0) DD y_M_climb.cls) (hret : meth.sig.returnType = none) (hlk : meth.locks = false) (hnm : meth.name = y_M_climb.name) (n : Nat)   (v0 : Option Nat) (v1 : Int32) (v2 : Int32) (w0 : Int32) (σ : Hp) (hf : f_M_climb_94 n  v0 v1 v2 w0 σ = some σz) : GG p l e rm_M_climb s m args below meth c 6 (dm σ0) DD (MQ below (Post DD σ0 none σz) args s rm_M_climb.cells rm_M_climb.slots (dm σ0)) 0 0 σ 94 [(0, tR v0), (1, tI v1), (2, tI v2)] [tI w0] := by
  unfold f_M_climb_94 at hf
  refine r_istore_n (lv' := [(0, tR v0), (1, tI v1), (2, tI v2), (3, tI w0)]) X [1, 2, 3, 0] d_M_climb_94 rfl (Nat.le_of_ble_eq_true rfl) rfl ?_
  refine r_aload_n X d_M_climb_95 rfl 0 rfl ?_
  refine r_iload_n X d_M_climb_96 rfl 3 rfl ?_
  refine r_bipush (v := 50) X d_M_climb_97 (by decide) ?_
  refine r_icmp_lt (tgt := 109) X d_M_climb_99 (by decide) (fun hc25 => ?_) (fun hc25 => ?_)
  · have hf := (if_pos hc25).symm.trans hf
    refine r_aload_n X d_M_climb_109 rfl 0 rfl ?_
    obtain ⟨x26, h27, hf⟩ := obind hf
    refine r_ld_I (ci := 11) (k := 33) X h27 (Nat.le_of_ble_eq_true rfl) (Nat.le_of_ble_eq_true rfl) (Or.inl rfl) rfl q737 d_M_climb_110 ?_
    refine r_bipush (v := 63) X d_M_climb_113 (by decide) ?_
    refine r_imul X d_M_climb_115 ?_
    refine r_bipush (v := 64) X d_M_climb_116 (by decide) ?_
    refine r_idiv X d_M_climb_118 (by decide) ?_
    refine r_iconst (v := 1) X d_M_climb_119 (by decide) ?_
    refine r_icmp_ge (tgt := 127) X d_M_climb_120 (by decide) (fun hc28 => ?_) (fun hc28 => ?_)
    · have hf := (if_pos hc28).symm.trans hf
      refine r_aload_n X d_M_climb_127 rfl 0 rfl ?_
      obtain ⟨x29, h30, hf⟩ := obind hf
      refine r_ld_I (ci := 11) (k := 33) X h30 (Nat.le_of_ble_eq_true rfl) (Nat.le_of_ble_eq_true rfl) (Or.inl rfl) rfl q737 d_M_climb_128 ?_
      refine r_bipush (v := 63) X d_M_climb_131 (by decide) ?_
      refine r_imul X d_M_climb_133 ?_
      refine r_bipush (v := 64) X d_M_climb_134 (by decide) ?_
      refine r_idiv X d_M_climb_136 (by decide) ?_
      refine r_widen (kc2 := 0) (ks2 := 0) (Nat.le_of_ble_eq_true rfl) (Nat.le_of_ble_eq_true rfl) ?_
      refine r_sub [0, 1, 2] (lv' := [(0, tR v0), (1, tI v1), (2, tI v2)]) rfl ?_
      exact b_M_climb_137 X hret hlk hnm n   v0 v1 v2 ((x29 * 63) / 64) v0 σ hf
    · have hf := (if_neg hc28).symm.trans hf
      refine r_iconst (v := 1) X d_M_climb_123 (by decide) ?_
      refine r_goto (tgt := 137) X d_M_climb_124 (by decide) ?_
      refine r_widen (kc2 := 0) (ks2 := 0) (Nat.le_of_ble_eq_true rfl) (Nat.le_of_ble_eq_true rfl) ?_
      refine r_sub [0, 1, 2] (lv' := [(0, tR v0), (1, tI v1), (2, tI v2)]) rfl ?_
      exact b_M_climb_137 X hret hlk hnm n   v0 v1 v2 1 v0 σ hf
  · have hf := (if_neg hc25).symm.trans hf
    refine r_aload_n X d_M_climb_102 rfl 0 rfl ?_
    obtain ⟨x124, h123, hf⟩ := obind hf
    obtain ⟨x127, σ126, h125, hf⟩ := pbind hf
    refine r_callV (st := [tR v0]) X [] (ci := 11) h123 (Nat.le_of_ble_eq_true rfl) q696 q698 sl17 (c_M_firstStep v0 h125) q699 q11 y_M_firstStep_ok rfl ⟨Nat.le_of_ble_eq_true rfl, Nat.le_of_ble_eq_true rfl⟩ (Nat.le_of_ble_eq_true rfl) ⟨Nat.le_of_ble_eq_true rfl, Nat.le_of_ble_eq_true rfl⟩ d_M_climb_103 ?_
    refine r_goto (tgt := 137) X d_M_climb_106 (by decide) ?_
    refine r_widen (kc2 := 0) (ks2 := 0) (Nat.le_of_ble_eq_true rfl) (Nat.le_of_ble_eq_true rfl) ?_
    refine r_sub [0, 1, 2] (lv' := [(0, tR v0), (1, tI v1), (2, tI v2)]) rfl ?_
    exact b_M_climb_137 X hret hlk hnm n   v0 v1 v2 x127 v0 σ126 hf

def f_M_climb_66 (n : Nat)  (v0 : Option Nat) (v1 : Int32) (σ : Hp) : Option Hp :=
  Option.bind (ld_I σ v0 11 33) fun x18 =>
  Option.bind (ld_I σ v0 11 34) fun x20 =>
  if x20 ≤ v1 then
  (
    Option.bind (ld_I σ v0 11 34) fun x23 =>
    f_M_climb_94 n  v0 v1 x18 (v1 - x23) σ)
  else
  (
    Option.bind (ld_I σ v0 11 34) fun x128 =>
    f_M_climb_94 n  v0 v1 x18 (x128 - v1) σ)
set_option maxRecDepth 100000 in
theorem b_M_climb_66 {p : Program} {l : Launch} {e : Env} {s : State} {m : MethodId} {args : Array Value} {below : List Frame} {meth : Method} {c : Code} {DD : DT} {σ0 σz : Hp} (X : CX p s m args c prog_13_method_27_code 6 (dm σ0) DD y_M_climb.cls) (hret : meth.sig.returnType = none) (hlk : meth.locks = false) (hnm : meth.name = y_M_climb.name) (n : Nat)   (v0 : Option Nat) (v1 : Int32) (σ : Hp) (hf : f_M_climb_66 n  v0 v1 σ = some σz) : GG p l e rm_M_climb s m args below meth c 6 (dm σ0) DD (MQ below (Post DD σ0 none σz) args s rm_M_climb.cells rm_M_climb.slots (dm σ0)) 0 0 σ 66 [(0, tR v0), (1, tI v1)] [] := by
  unfold f_M_climb_66 at hf
  refine r_aload_n X d_M_climb_66 rfl 0 rfl ?_
  obtain ⟨x18, h19, hf⟩ := obind hf
  refine r_ld_I (ci := 11) (k := 33) X h19 (Nat.le_of_ble_eq_true rfl) (Nat.le_of_ble_eq_true rfl) (Or.inl rfl) rfl q737 d_M_climb_67 ?_
  refine r_istore_n (lv' := [(0, tR v0), (1, tI v1), (2, tI x18)]) X [1, 2, 0] d_M_climb_70 rfl (Nat.le_of_ble_eq_true rfl) rfl ?_
  refine r_iload_n X d_M_climb_71 rfl 1 rfl ?_
  refine r_aload_n X d_M_climb_72 rfl 0 rfl ?_
  obtain ⟨x20, h21, hf⟩ := obind hf
  refine r_ld_I (ci := 11) (k := 34) X h21 (Nat.le_of_ble_eq_true rfl) (Nat.le_of_ble_eq_true rfl) (Or.inl rfl) rfl q738 d_M_climb_73 ?_
  refine r_icmp_ge (tgt := 88) X d_M_climb_76 (by decide) (fun hc22 => ?_) (fun hc22 => ?_)
  · have hf := (if_pos hc22).symm.trans hf
    refine r_iload_n X d_M_climb_88 rfl 1 rfl ?_
    refine r_aload_n X d_M_climb_89 rfl 0 rfl ?_
    obtain ⟨x23, h24, hf⟩ := obind hf
    refine r_ld_I (ci := 11) (k := 34) X h24 (Nat.le_of_ble_eq_true rfl) (Nat.le_of_ble_eq_true rfl) (Or.inl rfl) rfl q738 d_M_climb_90 ?_
    refine r_isub X d_M_climb_93 ?_
    refine r_widen (kc2 := 0) (ks2 := 0) (Nat.le_of_ble_eq_true rfl) (Nat.le_of_ble_eq_true rfl) ?_
    refine r_sub [0, 1, 2] (lv' := [(0, tR v0), (1, tI v1), (2, tI x18)]) rfl ?_
    exact b_M_climb_94 X hret hlk hnm n   v0 v1 x18 (v1 - x23) σ hf
  · have hf := (if_neg hc22).symm.trans hf
    refine r_aload_n X d_M_climb_79 rfl 0 rfl ?_
    obtain ⟨x128, h129, hf⟩ := obind hf
    refine r_ld_I (ci := 11) (k := 34) X h129 (Nat.le_of_ble_eq_true rfl) (Nat.le_of_ble_eq_true rfl) (Or.inl rfl) rfl q738 d_M_climb_80 ?_
    refine r_iload_n X d_M_climb_83 rfl 1 rfl ?_
    refine r_isub X d_M_climb_84 ?_
    refine r_goto (tgt := 94) X d_M_climb_85 (by decide) ?_
    refine r_widen (kc2 := 0) (ks2 := 0) (Nat.le_of_ble_eq_true rfl) (Nat.le_of_ble_eq_true rfl) ?_
    refine r_sub [0, 1, 2] (lv' := [(0, tR v0), (1, tI v1), (2, tI x18)]) rfl ?_
    exact b_M_climb_94 X hret hlk hnm n   v0 v1 x18 (x128 - v1) σ hf

def f_M_climb_63 (n : Nat)  (v0 : Option Nat) (v1 : Int32) (w0 : Int32) (w1 : Option Nat) (σ : Hp) : Option Hp :=
  Option.bind (st_Z σ w1 11 36 w0) fun σ133 =>
  f_M_climb_66 n  v0 v1 σ133
set_option maxRecDepth 100000 in
theorem b_M_climb_63 {p : Program} {l : Launch} {e : Env} {s : State} {m : MethodId} {args : Array Value} {below : List Frame} {meth : Method} {c : Code} {DD : DT} {σ0 σz : Hp} (X : CX p s m args c prog_13_method_27_code 6 (dm σ0) DD y_M_climb.cls) (hret : meth.sig.returnType = none) (hlk : meth.locks = false) (hnm : meth.name = y_M_climb.name) (n : Nat)   (v0 : Option Nat) (v1 : Int32) (w0 : Int32) (w1 : Option Nat) (σ : Hp) (hf : f_M_climb_63 n  v0 v1 w0 w1 σ = some σz) : GG p l e rm_M_climb s m args below meth c 6 (dm σ0) DD (MQ below (Post DD σ0 none σz) args s rm_M_climb.cells rm_M_climb.slots (dm σ0)) 0 0 σ 63 [(0, tR v0), (1, tI v1)] [tI w0, tR w1] := by
  unfold f_M_climb_63 at hf
  obtain ⟨σ133, h134, hf⟩ := obind hf
  refine r_st_Z (ci := 11) (k := 36) X h134 (Nat.le_of_ble_eq_true rfl) (Nat.le_of_ble_eq_true rfl) rfl rfl rfl q740 d_M_climb_63 ?_
  refine r_widen (kc2 := 0) (ks2 := 0) (Nat.le_of_ble_eq_true rfl) (Nat.le_of_ble_eq_true rfl) ?_
  refine r_sub [0, 1] (lv' := [(0, tR v0), (1, tI v1)]) rfl ?_
  exact b_M_climb_66 X hret hlk hnm n   v0 v1 σ133 hf

def f_M_climb (n : Nat) (v0 : Option Nat) (σ : Hp) : Option Hp :=
  Option.bind (ld_I σ v0 11 39) fun x1 =>
  Option.bind (ld_I σ v0 11 40) fun x3 =>
  Option.bind (ld_I σ v0 11 1) fun x5 =>
  if (10 * x5) ≤ (x1 + x3) then
  (
    Option.bind (ld_I σ v0 11 39) fun x8 =>
    Option.bind (ld_I σ v0 11 39) fun x10 =>
    Option.bind (ld_I σ v0 11 40) fun x12 =>
    if (Int32.toInt64 (x10 + x12)) = 0 then none else
    Option.bind (ld_I σ v0 11 34) fun x15 =>
    if x15 ≤ (Int64.toInt32 ((1000 * (Int32.toInt64 x8)) / (Int32.toInt64 (x10 + x12)))) then
    (
      f_M_climb_66 n  v0 (Int64.toInt32 ((1000 * (Int32.toInt64 x8)) / (Int32.toInt64 (x10 + x12)))) σ)
    else
    (
      Option.bind (ld_I σ v0 11 36) fun x130 =>
      if x130 = 0 then
      (
        f_M_climb_63 n  v0 (Int64.toInt32 ((1000 * (Int32.toInt64 x8)) / (Int32.toInt64 (x10 + x12)))) 1 v0 σ)
      else
      (
        f_M_climb_63 n  v0 (Int64.toInt32 ((1000 * (Int32.toInt64 x8)) / (Int32.toInt64 (x10 + x12)))) 0 v0 σ)))
  else
  (
    some σ)
set_option maxRecDepth 100000 in
theorem c_M_climb {l : Launch} {DD : DT} (n : Nat) (v0 : Option Nat) {σ0 σz : Hp} (hf : f_M_climb n v0 σ0 = some σz) : CT l DD y_M_climb prog_13_method_27_code 6 none rm_M_climb [tR v0] σ0 none σz := by
  refine r_met (by decide) (Nat.le_of_ble_eq_true rfl) ?_
  intro p e s m args below meth c X hret hlk hnm
  unfold f_M_climb at hf
  refine r_aload_n X d_M_climb_0 rfl 0 rfl ?_
  obtain ⟨x1, h2, hf⟩ := obind hf
  refine r_ld_I (ci := 11) (k := 39) X h2 (Nat.le_of_ble_eq_true rfl) (Nat.le_of_ble_eq_true rfl) (Or.inl rfl) rfl q743 d_M_climb_1 ?_
  refine r_aload_n X d_M_climb_4 rfl 0 rfl ?_
  obtain ⟨x3, h4, hf⟩ := obind hf
  refine r_ld_I (ci := 11) (k := 40) X h4 (Nat.le_of_ble_eq_true rfl) (Nat.le_of_ble_eq_true rfl) (Or.inl rfl) rfl q744 d_M_climb_5 ?_
  refine r_iadd X d_M_climb_8 ?_
  refine r_bipush (v := 10) X d_M_climb_9 (by decide) ?_
  refine r_aload_n X d_M_climb_11 rfl 0 rfl ?_
  obtain ⟨x5, h6, hf⟩ := obind hf
  refine r_ld_I (ci := 11) (k := 1) X h6 (Nat.le_of_ble_eq_true rfl) (Nat.le_of_ble_eq_true rfl) (Or.inl rfl) rfl q705 d_M_climb_12 ?_
  refine r_imul X d_M_climb_15 ?_
  refine r_icmp_ge (tgt := 20) X d_M_climb_16 (by decide) (fun hc7 => ?_) (fun hc7 => ?_)
  · have hf := (if_pos hc7).symm.trans hf
    refine r_ldc2 X d_M_climb_20 q978 ?_
    refine r_aload_n X d_M_climb_23 rfl 0 rfl ?_
    obtain ⟨x8, h9, hf⟩ := obind hf
    refine r_ld_I (ci := 11) (k := 39) X h9 (Nat.le_of_ble_eq_true rfl) (Nat.le_of_ble_eq_true rfl) (Or.inl rfl) rfl q743 d_M_climb_24 ?_
    refine r_i2l X d_M_climb_27 ?_
    refine r_lmul X d_M_climb_28 ?_
    refine r_aload_n X d_M_climb_29 rfl 0 rfl ?_
    obtain ⟨x10, h11, hf⟩ := obind hf
    refine r_ld_I (ci := 11) (k := 39) X h11 (Nat.le_of_ble_eq_true rfl) (Nat.le_of_ble_eq_true rfl) (Or.inl rfl) rfl q743 d_M_climb_30 ?_
    refine r_aload_n X d_M_climb_33 rfl 0 rfl ?_
    obtain ⟨x12, h13, hf⟩ := obind hf
    refine r_ld_I (ci := 11) (k := 40) X h13 (Nat.le_of_ble_eq_true rfl) (Nat.le_of_ble_eq_true rfl) (Or.inl rfl) rfl q744 d_M_climb_34 ?_
    refine r_iadd X d_M_climb_37 ?_
    refine r_i2l X d_M_climb_38 ?_
    have hz14 : ¬ (Int32.toInt64 (x10 + x12)) = 0 := by
      intro z
      have hf := (if_pos z).symm.trans hf
      cases hf
    have hf := (if_neg hz14).symm.trans hf
    refine r_ldiv X d_M_climb_39 hz14 ?_
    refine r_l2i X d_M_climb_40 ?_
    refine r_istore_n (lv' := [(0, tR v0), (1, tI (Int64.toInt32 ((1000 * (Int32.toInt64 x8)) / (Int32.toInt64 (x10 + x12)))))]) X [1, 0] d_M_climb_41 rfl (Nat.le_of_ble_eq_true rfl) rfl ?_
    refine r_iload_n X d_M_climb_42 rfl 1 rfl ?_
    refine r_aload_n X d_M_climb_43 rfl 0 rfl ?_
    obtain ⟨x15, h16, hf⟩ := obind hf
    refine r_ld_I (ci := 11) (k := 34) X h16 (Nat.le_of_ble_eq_true rfl) (Nat.le_of_ble_eq_true rfl) (Or.inl rfl) rfl q738 d_M_climb_44 ?_
    refine r_icmp_ge (tgt := 66) X d_M_climb_47 (by decide) (fun hc17 => ?_) (fun hc17 => ?_)
    · have hf := (if_pos hc17).symm.trans hf
      refine r_widen (kc2 := 0) (ks2 := 0) (Nat.le_of_ble_eq_true rfl) (Nat.le_of_ble_eq_true rfl) ?_
      refine r_sub [0, 1] (lv' := [(0, tR v0), (1, tI (Int64.toInt32 ((1000 * (Int32.toInt64 x8)) / (Int32.toInt64 (x10 + x12)))))]) rfl ?_
      exact b_M_climb_66 X hret hlk hnm n   v0 (Int64.toInt32 ((1000 * (Int32.toInt64 x8)) / (Int32.toInt64 (x10 + x12)))) σ0 hf
    · have hf := (if_neg hc17).symm.trans hf
      refine r_aload_n X d_M_climb_50 rfl 0 rfl ?_
      refine r_aload_n X d_M_climb_51 rfl 0 rfl ?_
      obtain ⟨x130, h131, hf⟩ := obind hf
      refine r_ld_I (ci := 11) (k := 36) X h131 (Nat.le_of_ble_eq_true rfl) (Nat.le_of_ble_eq_true rfl) (Or.inr rfl) rfl q740 d_M_climb_52 ?_
      refine r_if_ne (tgt := 62) X d_M_climb_55 (by decide) (fun hc132 => ?_) (fun hc132 => ?_)
      · have hf := (if_neg hc132).symm.trans hf
        refine r_iconst (v := 0) X d_M_climb_62 (by decide) ?_
        refine r_widen (kc2 := 0) (ks2 := 0) (Nat.le_of_ble_eq_true rfl) (Nat.le_of_ble_eq_true rfl) ?_
        refine r_sub [0, 1] (lv' := [(0, tR v0), (1, tI (Int64.toInt32 ((1000 * (Int32.toInt64 x8)) / (Int32.toInt64 (x10 + x12)))))]) rfl ?_
        exact b_M_climb_63 X hret hlk hnm n   v0 (Int64.toInt32 ((1000 * (Int32.toInt64 x8)) / (Int32.toInt64 (x10 + x12)))) 0 v0 σ0 hf
      · have hf := (if_pos hc132).symm.trans hf
        refine r_iconst (v := 1) X d_M_climb_58 (by decide) ?_
        refine r_goto (tgt := 63) X d_M_climb_59 (by decide) ?_
        refine r_widen (kc2 := 0) (ks2 := 0) (Nat.le_of_ble_eq_true rfl) (Nat.le_of_ble_eq_true rfl) ?_
        refine r_sub [0, 1] (lv' := [(0, tR v0), (1, tI (Int64.toInt32 ((1000 * (Int32.toInt64 x8)) / (Int32.toInt64 (x10 + x12)))))]) rfl ?_
        exact b_M_climb_63 X hret hlk hnm n   v0 (Int64.toInt32 ((1000 * (Int32.toInt64 x8)) / (Int32.toInt64 (x10 + x12)))) 1 v0 σ0 hf
  · have hf := (if_neg hc7).symm.trans hf
    cases hf
    refine r_widen (kc2 := rm_M_climb.cells) (ks2 := rm_M_climb.slots) (Nat.le_of_ble_eq_true rfl) (Nat.le_of_ble_eq_true rfl) ?_
    exact r_vret X hret hlk d_M_climb_19

def f_M_maintenance (n : Nat) (v0 : Option Nat) (σ : Hp) : Option Hp :=
  Option.bind (is_O σ v0 11) fun x2 =>
  Option.bind (f_M_workNotes n v0 σ) fun σ4 =>
  Option.bind (is_O σ4 v0 11) fun x6 =>
  Option.bind (f_M_workTasks n v0 σ4) fun σ8 =>
  Option.bind (is_O σ8 v0 11) fun x10 =>
  Option.bind (f_M_expire n v0 σ8) fun σ12 =>
  Option.bind (is_O σ12 v0 11) fun x14 =>
  Option.bind (f_M_shrink n v0 σ12) fun σ16 =>
  Option.bind (is_O σ16 v0 11) fun x18 =>
  Option.bind (f_M_climb n v0 σ16) fun σ20 =>
  some σ20
set_option maxRecDepth 100000 in
theorem c_M_maintenance {l : Launch} {DD : DT} (n : Nat) (v0 : Option Nat) {σ0 σz : Hp} (hf : f_M_maintenance n v0 σ0 = some σz) : CT l DD y_M_maintenance prog_13_method_28_code 1 none rm_M_maintenance [tR v0] σ0 none σz := by
  refine r_met (by decide) (Nat.le_of_ble_eq_true rfl) ?_
  intro p e s m args below meth c X hret hlk hnm
  unfold f_M_maintenance at hf
  refine r_aload_n X d_M_maintenance_0 rfl 0 rfl ?_
  obtain ⟨x2, h1, hf⟩ := obind hf
  obtain ⟨σ4, h3, hf⟩ := obind hf
  refine r_callV (st := []) X [] (ci := 11) h1 (Nat.le_of_ble_eq_true rfl) q910 q912 sl27 (c_M_workNotes n v0 h3) q913 q11 y_M_workNotes_ok rfl ⟨Nat.le_of_ble_eq_true rfl, Nat.le_of_ble_eq_true rfl⟩ (Nat.le_of_ble_eq_true rfl) ⟨Nat.le_of_ble_eq_true rfl, Nat.le_of_ble_eq_true rfl⟩ d_M_maintenance_1 ?_
  refine r_aload_n X d_M_maintenance_4 rfl 0 rfl ?_
  obtain ⟨x6, h5, hf⟩ := obind hf
  obtain ⟨σ8, h7, hf⟩ := obind hf
  refine r_callV (st := []) X [] (ci := 11) h5 (Nat.le_of_ble_eq_true rfl) q942 q944 sl35 (c_M_workTasks n v0 h7) q945 q11 y_M_workTasks_ok rfl ⟨Nat.le_of_ble_eq_true rfl, Nat.le_of_ble_eq_true rfl⟩ (Nat.le_of_ble_eq_true rfl) ⟨Nat.le_of_ble_eq_true rfl, Nat.le_of_ble_eq_true rfl⟩ d_M_maintenance_5 ?_
  refine r_aload_n X d_M_maintenance_8 rfl 0 rfl ?_
  obtain ⟨x10, h9, hf⟩ := obind hf
  obtain ⟨σ12, h11, hf⟩ := obind hf
  refine r_callV (st := []) X [] (ci := 11) h9 (Nat.le_of_ble_eq_true rfl) q946 q948 sl36 (c_M_expire n v0 h11) q949 q11 y_M_expire_ok rfl ⟨Nat.le_of_ble_eq_true rfl, Nat.le_of_ble_eq_true rfl⟩ (Nat.le_of_ble_eq_true rfl) ⟨Nat.le_of_ble_eq_true rfl, Nat.le_of_ble_eq_true rfl⟩ d_M_maintenance_9 ?_
  refine r_aload_n X d_M_maintenance_12 rfl 0 rfl ?_
  obtain ⟨x14, h13, hf⟩ := obind hf
  obtain ⟨σ16, h15, hf⟩ := obind hf
  refine r_callV (st := []) X [] (ci := 11) h13 (Nat.le_of_ble_eq_true rfl) q950 q952 sl37 (c_M_shrink n v0 h15) q953 q11 y_M_shrink_ok rfl ⟨Nat.le_of_ble_eq_true rfl, Nat.le_of_ble_eq_true rfl⟩ (Nat.le_of_ble_eq_true rfl) ⟨Nat.le_of_ble_eq_true rfl, Nat.le_of_ble_eq_true rfl⟩ d_M_maintenance_13 ?_
  refine r_aload_n X d_M_maintenance_16 rfl 0 rfl ?_
  obtain ⟨x18, h17, hf⟩ := obind hf
  obtain ⟨σ20, h19, hf⟩ := obind hf
  refine r_callV (st := []) X [] (ci := 11) h17 (Nat.le_of_ble_eq_true rfl) q974 q976 sl43 (c_M_climb n v0 h19) q977 q11 y_M_climb_ok rfl ⟨Nat.le_of_ble_eq_true rfl, Nat.le_of_ble_eq_true rfl⟩ (Nat.le_of_ble_eq_true rfl) ⟨Nat.le_of_ble_eq_true rfl, Nat.le_of_ble_eq_true rfl⟩ d_M_maintenance_17 ?_
  cases hf
  refine r_widen (kc2 := rm_M_maintenance.cells) (ks2 := rm_M_maintenance.slots) (Nat.le_of_ble_eq_true rfl) (Nat.le_of_ble_eq_true rfl) ?_
  exact r_vret X hret hlk d_M_maintenance_20

def f_M_task (n : Nat) (v0 : Option Nat) (v1 : Int32) (v2 : Int32) (σ : Hp) : Option Hp :=
  Option.bind (ld_R σ v0 11 25) fun x1 =>
  Option.bind (ld_I σ v0 11 27) fun x3 =>
  Option.bind (as_I σ 0 x1 x3 v1) fun σ5 =>
  Option.bind (ld_R σ5 v0 11 26) fun x7 =>
  Option.bind (ld_I σ5 v0 11 27) fun x9 =>
  Option.bind (as_I σ5 0 x7 x9 v2) fun σ11 =>
  Option.bind (ld_I σ11 v0 11 27) fun x13 =>
  Option.bind (st_I σ11 v0 11 27 (x13 + 1)) fun σ15 =>
  Option.bind (ld_I σ15 v0 11 27) fun x17 =>
  if x17 = 8 then
  (
    Option.bind (is_O σ15 v0 11) fun x21 =>
    Option.bind (f_M_maintenance n v0 σ15) fun σ23 =>
    some σ23)
  else
  (
    some σ15)
set_option maxRecDepth 100000 in
theorem c_M_task {l : Launch} {DD : DT} (n : Nat) (v0 : Option Nat) (v1 : Int32) (v2 : Int32) {σ0 σz : Hp} (hf : f_M_task n v0 v1 v2 σ0 = some σz) : CT l DD y_M_task prog_13_method_19_code 3 none rm_M_task [tR v0, tI v1, tI v2] σ0 none σz := by
  refine r_met (by decide) (Nat.le_of_ble_eq_true rfl) ?_
  intro p e s m args below meth c X hret hlk hnm
  unfold f_M_task at hf
  refine r_aload_n X d_M_task_0 rfl 0 rfl ?_
  obtain ⟨x1, h2, hf⟩ := obind hf
  refine r_ld_R (ci := 11) (k := 25) X h2 (Nat.le_of_ble_eq_true rfl) (Nat.le_of_ble_eq_true rfl) rfl rfl q729 d_M_task_1 ?_
  refine r_aload_n X d_M_task_4 rfl 0 rfl ?_
  obtain ⟨x3, h4, hf⟩ := obind hf
  refine r_ld_I (ci := 11) (k := 27) X h4 (Nat.le_of_ble_eq_true rfl) (Nat.le_of_ble_eq_true rfl) (Or.inl rfl) rfl q731 d_M_task_5 ?_
  refine r_iload_n X d_M_task_8 rfl 1 rfl ?_
  obtain ⟨σ5, h6, hf⟩ := obind hf
  refine r_as_I X h6 d_M_task_9 ?_
  refine r_aload_n X d_M_task_10 rfl 0 rfl ?_
  obtain ⟨x7, h8, hf⟩ := obind hf
  refine r_ld_R (ci := 11) (k := 26) X h8 (Nat.le_of_ble_eq_true rfl) (Nat.le_of_ble_eq_true rfl) rfl rfl q730 d_M_task_11 ?_
  refine r_aload_n X d_M_task_14 rfl 0 rfl ?_
  obtain ⟨x9, h10, hf⟩ := obind hf
  refine r_ld_I (ci := 11) (k := 27) X h10 (Nat.le_of_ble_eq_true rfl) (Nat.le_of_ble_eq_true rfl) (Or.inl rfl) rfl q731 d_M_task_15 ?_
  refine r_iload_n X d_M_task_18 rfl 2 rfl ?_
  obtain ⟨σ11, h12, hf⟩ := obind hf
  refine r_as_I X h12 d_M_task_19 ?_
  refine r_aload_n X d_M_task_20 rfl 0 rfl ?_
  refine r_dup X d_M_task_21 rfl ?_
  obtain ⟨x13, h14, hf⟩ := obind hf
  refine r_ld_I (ci := 11) (k := 27) X h14 (Nat.le_of_ble_eq_true rfl) (Nat.le_of_ble_eq_true rfl) (Or.inl rfl) rfl q731 d_M_task_22 ?_
  refine r_iconst (v := 1) X d_M_task_25 (by decide) ?_
  refine r_iadd X d_M_task_26 ?_
  obtain ⟨σ15, h16, hf⟩ := obind hf
  refine r_st_I (ci := 11) (k := 27) X h16 (Nat.le_of_ble_eq_true rfl) (Nat.le_of_ble_eq_true rfl) rfl rfl rfl q731 d_M_task_27 ?_
  refine r_aload_n X d_M_task_30 rfl 0 rfl ?_
  obtain ⟨x17, h18, hf⟩ := obind hf
  refine r_ld_I (ci := 11) (k := 27) X h18 (Nat.le_of_ble_eq_true rfl) (Nat.le_of_ble_eq_true rfl) (Or.inl rfl) rfl q731 d_M_task_31 ?_
  refine r_bipush (v := 8) X d_M_task_34 (by decide) ?_
  refine r_icmp_ne (tgt := 43) X d_M_task_36 (by decide) (fun hc19 => ?_) (fun hc19 => ?_)
  · have hf := (if_neg hc19).symm.trans hf
    cases hf
    refine r_widen (kc2 := rm_M_task.cells) (ks2 := rm_M_task.slots) (Nat.le_of_ble_eq_true rfl) (Nat.le_of_ble_eq_true rfl) ?_
    exact r_vret X hret hlk d_M_task_43
  · have hf := (if_pos hc19).symm.trans hf
    refine r_aload_n X d_M_task_39 rfl 0 rfl ?_
    obtain ⟨x21, h20, hf⟩ := obind hf
    obtain ⟨σ23, h22, hf⟩ := obind hf
    refine r_callV (st := []) X [] (ci := 11) h20 (Nat.le_of_ble_eq_true rfl) q906 q908 sl26 (c_M_maintenance n v0 h22) q909 q11 y_M_maintenance_ok rfl ⟨Nat.le_of_ble_eq_true rfl, Nat.le_of_ble_eq_true rfl⟩ (Nat.le_of_ble_eq_true rfl) ⟨Nat.le_of_ble_eq_true rfl, Nat.le_of_ble_eq_true rfl⟩ d_M_task_40 ?_
    cases hf
    refine r_widen (kc2 := rm_M_task.cells) (ks2 := rm_M_task.slots) (Nat.le_of_ble_eq_true rfl) (Nat.le_of_ble_eq_true rfl) ?_
    exact r_vret X hret hlk d_M_task_43

def f_M_lay_188 (n : Nat)  (v5 : Int32) (v6 : Int32) (w0 : Int32) (w1 : Option Nat) (σ : Hp) : Option (Int32 × Hp) :=
  Option.bind (is_O σ w1 11) fun x71 =>
  Option.bind (f_M_task n w1 w0 v5 σ) fun σ73 =>
  if v6 = 0 ∨ v6 = 1 then some (v6, σ73) else none
set_option maxRecDepth 100000 in
theorem b_M_lay_188 {p : Program} {l : Launch} {e : Env} {s : State} {m : MethodId} {args : Array Value} {below : List Frame} {meth : Method} {c : Code} {DD : DT} {σ0 σz : Hp} {rz : Int32} (X : CX p s m args c prog_13_method_32_code 8 (dm σ0) DD y_M_lay.cls) (hret : meth.sig.returnType = some .boolean) (hlk : meth.locks = false) (hnm : meth.name = y_M_lay.name) (n : Nat)   (v5 : Int32) (v6 : Int32) (w0 : Int32) (w1 : Option Nat) (σ : Hp) (hf : f_M_lay_188 n  v5 v6 w0 w1 σ = some (rz, σz)) : GG p l e rm_M_lay s m args below meth c 8 (dm σ0) DD (MQ below (Post DD σ0 (some (tI rz)) σz) args s rm_M_lay.cells rm_M_lay.slots (dm σ0)) 0 0 σ 188 [(5, tI v5), (6, tI v6)] [tI w0, tR w1] := by
  unfold f_M_lay_188 at hf
  refine r_iload X d_M_lay_188 0 rfl ?_
  obtain ⟨x71, h70, hf⟩ := obind hf
  obtain ⟨σ73, h72, hf⟩ := obind hf
  refine r_callV (st := []) X [tI w0, tI v5] (ci := 11) h70 (Nat.le_of_ble_eq_true rfl) q902 q904 sl25 (c_M_task n w1 w0 v5 h72) q905 q11 y_M_task_ok rfl ⟨Nat.le_of_ble_eq_true rfl, Nat.le_of_ble_eq_true rfl⟩ (Nat.le_of_ble_eq_true rfl) ⟨Nat.le_of_ble_eq_true rfl, Nat.le_of_ble_eq_true rfl⟩ d_M_lay_190 ?_
  refine r_iload X d_M_lay_193 1 rfl ?_
  have hz74 : v6 = 0 ∨ v6 = 1 := Classical.byContradiction fun z => by
    have hf := (if_neg z).symm.trans hf
    cases hf
  have hf := (if_pos hz74).symm.trans hf
  cases hf
  refine r_widen (kc2 := rm_M_lay.cells) (ks2 := rm_M_lay.slots) (Nat.le_of_ble_eq_true rfl) (Nat.le_of_ble_eq_true rfl) ?_
  exact r_zret X hret hlk hz74 d_M_lay_195

def f_M_lay_119 (n : Nat)  (v0 : Option Nat) (v2 : Int32) (v3 : Int32) (v4 : Int32) (v5 : Int32) (v6 : Int32) (σ : Hp) : Option (Int32 × Hp) :=
  Option.bind (ld_R σ v0 11 12) fun x39 =>
  Option.bind (as_I σ 0 x39 v5 v2) fun σ41 =>
  Option.bind (ld_R σ41 v0 11 13) fun x43 =>
  Option.bind (as_I σ41 0 x43 v5 v3) fun σ45 =>
  Option.bind (ld_R σ45 v0 11 14) fun x47 =>
  Option.bind (as_I σ45 0 x47 v5 v4) fun σ49 =>
  Option.bind (ld_R σ49 v0 11 17) fun x51 =>
  Option.bind (ld_L σ49 v0 11 5) fun x53 =>
  Option.bind (as_L σ49 1 x51 v5 x53) fun σ55 =>
  Option.bind (ld_R σ55 v0 11 18) fun x57 =>
  Option.bind (ld_L σ55 v0 11 5) fun x59 =>
  Option.bind (as_L σ55 1 x57 v5 x59) fun σ61 =>
  Option.bind (ld_R σ61 v0 11 16) fun x63 =>
  Option.bind (al_I σ61 0 x63 v5) fun x65 =>
  Option.bind (as_I σ61 0 x63 v5 (x65 + 1)) fun σ67 =>
  if v6 = 0 then
  (
    f_M_lay_188 n  v5 v6 0 v0 σ67)
  else
  (
    f_M_lay_188 n  v5 v6 1 v0 σ67)
set_option maxRecDepth 100000 in
theorem b_M_lay_119 {p : Program} {l : Launch} {e : Env} {s : State} {m : MethodId} {args : Array Value} {below : List Frame} {meth : Method} {c : Code} {DD : DT} {σ0 σz : Hp} {rz : Int32} (X : CX p s m args c prog_13_method_32_code 8 (dm σ0) DD y_M_lay.cls) (hret : meth.sig.returnType = some .boolean) (hlk : meth.locks = false) (hnm : meth.name = y_M_lay.name) (n : Nat)   (v0 : Option Nat) (v2 : Int32) (v3 : Int32) (v4 : Int32) (v5 : Int32) (v6 : Int32) (σ : Hp) (hf : f_M_lay_119 n  v0 v2 v3 v4 v5 v6 σ = some (rz, σz)) : GG p l e rm_M_lay s m args below meth c 8 (dm σ0) DD (MQ below (Post DD σ0 (some (tI rz)) σz) args s rm_M_lay.cells rm_M_lay.slots (dm σ0)) 0 0 σ 119 [(0, tR v0), (2, tI v2), (3, tI v3), (4, tI v4), (5, tI v5), (6, tI v6)] [] := by
  unfold f_M_lay_119 at hf
  refine r_aload_n X d_M_lay_119 rfl 0 rfl ?_
  obtain ⟨x39, h40, hf⟩ := obind hf
  refine r_ld_R (ci := 11) (k := 12) X h40 (Nat.le_of_ble_eq_true rfl) (Nat.le_of_ble_eq_true rfl) rfl rfl q716 d_M_lay_120 ?_
  refine r_iload X d_M_lay_123 4 rfl ?_
  refine r_iload_n X d_M_lay_125 rfl 1 rfl ?_
  obtain ⟨σ41, h42, hf⟩ := obind hf
  refine r_as_I X h42 d_M_lay_126 ?_
  refine r_aload_n X d_M_lay_127 rfl 0 rfl ?_
  obtain ⟨x43, h44, hf⟩ := obind hf
  refine r_ld_R (ci := 11) (k := 13) X h44 (Nat.le_of_ble_eq_true rfl) (Nat.le_of_ble_eq_true rfl) rfl rfl q717 d_M_lay_128 ?_
  refine r_iload X d_M_lay_131 4 rfl ?_
  refine r_iload_n X d_M_lay_133 rfl 2 rfl ?_
  obtain ⟨σ45, h46, hf⟩ := obind hf
  refine r_as_I X h46 d_M_lay_134 ?_
  refine r_aload_n X d_M_lay_135 rfl 0 rfl ?_
  obtain ⟨x47, h48, hf⟩ := obind hf
  refine r_ld_R (ci := 11) (k := 14) X h48 (Nat.le_of_ble_eq_true rfl) (Nat.le_of_ble_eq_true rfl) rfl rfl q718 d_M_lay_136 ?_
  refine r_iload X d_M_lay_139 4 rfl ?_
  refine r_iload X d_M_lay_141 3 rfl ?_
  obtain ⟨σ49, h50, hf⟩ := obind hf
  refine r_as_I X h50 d_M_lay_143 ?_
  refine r_aload_n X d_M_lay_144 rfl 0 rfl ?_
  obtain ⟨x51, h52, hf⟩ := obind hf
  refine r_ld_R (ci := 11) (k := 17) X h52 (Nat.le_of_ble_eq_true rfl) (Nat.le_of_ble_eq_true rfl) rfl rfl q721 d_M_lay_145 ?_
  refine r_iload X d_M_lay_148 4 rfl ?_
  refine r_aload_n X d_M_lay_150 rfl 0 rfl ?_
  obtain ⟨x53, h54, hf⟩ := obind hf
  refine r_ld_L (ci := 11) (k := 5) X h54 (Nat.le_of_ble_eq_true rfl) (Nat.le_of_ble_eq_true rfl) rfl rfl q709 d_M_lay_151 ?_
  obtain ⟨σ55, h56, hf⟩ := obind hf
  refine r_as_L X h56 d_M_lay_154 ?_
  refine r_aload_n X d_M_lay_155 rfl 0 rfl ?_
  obtain ⟨x57, h58, hf⟩ := obind hf
  refine r_ld_R (ci := 11) (k := 18) X h58 (Nat.le_of_ble_eq_true rfl) (Nat.le_of_ble_eq_true rfl) rfl rfl q722 d_M_lay_156 ?_
  refine r_iload X d_M_lay_159 4 rfl ?_
  refine r_aload_n X d_M_lay_161 rfl 0 rfl ?_
  obtain ⟨x59, h60, hf⟩ := obind hf
  refine r_ld_L (ci := 11) (k := 5) X h60 (Nat.le_of_ble_eq_true rfl) (Nat.le_of_ble_eq_true rfl) rfl rfl q709 d_M_lay_162 ?_
  obtain ⟨σ61, h62, hf⟩ := obind hf
  refine r_as_L X h62 d_M_lay_165 ?_
  refine r_aload_n X d_M_lay_166 rfl 0 rfl ?_
  obtain ⟨x63, h64, hf⟩ := obind hf
  refine r_ld_R (ci := 11) (k := 16) X h64 (Nat.le_of_ble_eq_true rfl) (Nat.le_of_ble_eq_true rfl) rfl rfl q720 d_M_lay_167 ?_
  refine r_iload X d_M_lay_170 4 rfl ?_
  refine r_dup2 X d_M_lay_172 rfl rfl ?_
  obtain ⟨x65, h66, hf⟩ := obind hf
  refine r_al_I X h66 d_M_lay_173 ?_
  refine r_iconst (v := 1) X d_M_lay_174 (by decide) ?_
  refine r_iadd X d_M_lay_175 ?_
  obtain ⟨σ67, h68, hf⟩ := obind hf
  refine r_as_I X h68 d_M_lay_176 ?_
  refine r_aload_n X d_M_lay_177 rfl 0 rfl ?_
  refine r_iload X d_M_lay_178 5 rfl ?_
  refine r_if_eq (tgt := 187) X d_M_lay_180 (by decide) (fun hc69 => ?_) (fun hc69 => ?_)
  · have hf := (if_pos hc69).symm.trans hf
    refine r_iconst (v := 0) X d_M_lay_187 (by decide) ?_
    refine r_widen (kc2 := 0) (ks2 := 0) (Nat.le_of_ble_eq_true rfl) (Nat.le_of_ble_eq_true rfl) ?_
    refine r_sub [4, 5] (lv' := [(5, tI v5), (6, tI v6)]) rfl ?_
    exact b_M_lay_188 X hret hlk hnm n   v5 v6 0 v0 σ67 hf
  · have hf := (if_neg hc69).symm.trans hf
    refine r_iconst (v := 1) X d_M_lay_183 (by decide) ?_
    refine r_goto (tgt := 188) X d_M_lay_184 (by decide) ?_
    refine r_widen (kc2 := 0) (ks2 := 0) (Nat.le_of_ble_eq_true rfl) (Nat.le_of_ble_eq_true rfl) ?_
    refine r_sub [4, 5] (lv' := [(5, tI v5), (6, tI v6)]) rfl ?_
    exact b_M_lay_188 X hret hlk hnm n   v5 v6 1 v0 σ67 hf

def f_M_lay_63 (n : Nat)  (v0 : Option Nat) (v1 : Int32) (v2 : Int32) (v3 : Int32) (v4 : Int32) (v6 : Int32) (σ : Hp) : Option (Int32 × Hp) :=
  Option.bind (ld_I σ v0 11 10) fun x13 =>
  Option.bind (ld_I σ v0 11 10) fun x15 =>
  Option.bind (st_I σ v0 11 10 (x15 + 1)) fun σ17 =>
  Option.bind (ld_R σ17 v0 11 11) fun x19 =>
  Option.bind (as_I σ17 0 x19 x13 v1) fun σ21 =>
  Option.bind (ld_R σ21 v0 11 20) fun x23 =>
  Option.bind (as_Z σ21 2 x23 x13 1) fun σ25 =>
  Option.bind (ld_R σ25 v0 11 15) fun x27 =>
  Option.bind (as_I σ25 0 x27 x13 0) fun σ29 =>
  Option.bind (ld_R σ29 v0 11 16) fun x31 =>
  Option.bind (as_I σ29 0 x31 x13 0) fun σ33 =>
  Option.bind (ld_R σ33 v0 11 6) fun x35 =>
  Option.bind (as_I σ33 0 x35 v1 x13) fun σ37 =>
  f_M_lay_119 n  v0 v2 v3 v4 x13 v6 σ37
set_option maxRecDepth 100000 in
theorem b_M_lay_63 {p : Program} {l : Launch} {e : Env} {s : State} {m : MethodId} {args : Array Value} {below : List Frame} {meth : Method} {c : Code} {DD : DT} {σ0 σz : Hp} {rz : Int32} (X : CX p s m args c prog_13_method_32_code 8 (dm σ0) DD y_M_lay.cls) (hret : meth.sig.returnType = some .boolean) (hlk : meth.locks = false) (hnm : meth.name = y_M_lay.name) (n : Nat)   (v0 : Option Nat) (v1 : Int32) (v2 : Int32) (v3 : Int32) (v4 : Int32) (v6 : Int32) (σ : Hp) (hf : f_M_lay_63 n  v0 v1 v2 v3 v4 v6 σ = some (rz, σz)) : GG p l e rm_M_lay s m args below meth c 8 (dm σ0) DD (MQ below (Post DD σ0 (some (tI rz)) σz) args s rm_M_lay.cells rm_M_lay.slots (dm σ0)) 0 0 σ 63 [(0, tR v0), (1, tI v1), (2, tI v2), (3, tI v3), (4, tI v4), (6, tI v6)] [] := by
  unfold f_M_lay_63 at hf
  refine r_aload_n X d_M_lay_63 rfl 0 rfl ?_
  obtain ⟨x13, h14, hf⟩ := obind hf
  refine r_ld_I (ci := 11) (k := 10) X h14 (Nat.le_of_ble_eq_true rfl) (Nat.le_of_ble_eq_true rfl) (Or.inl rfl) rfl q714 d_M_lay_64 ?_
  refine r_istore (lv' := [(0, tR v0), (1, tI v1), (2, tI v2), (3, tI v3), (4, tI v4), (5, tI x13), (6, tI v6)]) X [1, 2, 3, 4, 5, 0, 6] d_M_lay_67 (Nat.le_of_ble_eq_true rfl) rfl ?_
  refine r_aload_n X d_M_lay_69 rfl 0 rfl ?_
  refine r_dup X d_M_lay_70 rfl ?_
  obtain ⟨x15, h16, hf⟩ := obind hf
  refine r_ld_I (ci := 11) (k := 10) X h16 (Nat.le_of_ble_eq_true rfl) (Nat.le_of_ble_eq_true rfl) (Or.inl rfl) rfl q714 d_M_lay_71 ?_
  refine r_iconst (v := 1) X d_M_lay_74 (by decide) ?_
  refine r_iadd X d_M_lay_75 ?_
  obtain ⟨σ17, h18, hf⟩ := obind hf
  refine r_st_I (ci := 11) (k := 10) X h18 (Nat.le_of_ble_eq_true rfl) (Nat.le_of_ble_eq_true rfl) rfl rfl rfl q714 d_M_lay_76 ?_
  refine r_aload_n X d_M_lay_79 rfl 0 rfl ?_
  obtain ⟨x19, h20, hf⟩ := obind hf
  refine r_ld_R (ci := 11) (k := 11) X h20 (Nat.le_of_ble_eq_true rfl) (Nat.le_of_ble_eq_true rfl) rfl rfl q715 d_M_lay_80 ?_
  refine r_iload X d_M_lay_83 5 rfl ?_
  refine r_iload_n X d_M_lay_85 rfl 1 rfl ?_
  obtain ⟨σ21, h22, hf⟩ := obind hf
  refine r_as_I X h22 d_M_lay_86 ?_
  refine r_aload_n X d_M_lay_87 rfl 0 rfl ?_
  obtain ⟨x23, h24, hf⟩ := obind hf
  refine r_ld_R (ci := 11) (k := 20) X h24 (Nat.le_of_ble_eq_true rfl) (Nat.le_of_ble_eq_true rfl) rfl rfl q724 d_M_lay_88 ?_
  refine r_iload X d_M_lay_91 5 rfl ?_
  refine r_iconst (v := 1) X d_M_lay_93 (by decide) ?_
  obtain ⟨σ25, h26, hf⟩ := obind hf
  refine r_as_Z X h26 d_M_lay_94 ?_
  refine r_aload_n X d_M_lay_95 rfl 0 rfl ?_
  obtain ⟨x27, h28, hf⟩ := obind hf
  refine r_ld_R (ci := 11) (k := 15) X h28 (Nat.le_of_ble_eq_true rfl) (Nat.le_of_ble_eq_true rfl) rfl rfl q719 d_M_lay_96 ?_
  refine r_iload X d_M_lay_99 5 rfl ?_
  refine r_iconst (v := 0) X d_M_lay_101 (by decide) ?_
  obtain ⟨σ29, h30, hf⟩ := obind hf
  refine r_as_I X h30 d_M_lay_102 ?_
  refine r_aload_n X d_M_lay_103 rfl 0 rfl ?_
  obtain ⟨x31, h32, hf⟩ := obind hf
  refine r_ld_R (ci := 11) (k := 16) X h32 (Nat.le_of_ble_eq_true rfl) (Nat.le_of_ble_eq_true rfl) rfl rfl q720 d_M_lay_104 ?_
  refine r_iload X d_M_lay_107 5 rfl ?_
  refine r_iconst (v := 0) X d_M_lay_109 (by decide) ?_
  obtain ⟨σ33, h34, hf⟩ := obind hf
  refine r_as_I X h34 d_M_lay_110 ?_
  refine r_aload_n X d_M_lay_111 rfl 0 rfl ?_
  obtain ⟨x35, h36, hf⟩ := obind hf
  refine r_ld_R (ci := 11) (k := 6) X h36 (Nat.le_of_ble_eq_true rfl) (Nat.le_of_ble_eq_true rfl) rfl rfl q710 d_M_lay_112 ?_
  refine r_iload_n X d_M_lay_115 rfl 1 rfl ?_
  refine r_iload X d_M_lay_116 5 rfl ?_
  obtain ⟨σ37, h38, hf⟩ := obind hf
  refine r_as_I X h38 d_M_lay_118 ?_
  refine r_widen (kc2 := 0) (ks2 := 0) (Nat.le_of_ble_eq_true rfl) (Nat.le_of_ble_eq_true rfl) ?_
  refine r_sub [0, 2, 3, 4, 5, 6] (lv' := [(0, tR v0), (2, tI v2), (3, tI v3), (4, tI v4), (5, tI x13), (6, tI v6)]) rfl ?_
  exact b_M_lay_119 X hret hlk hnm n   v0 v2 v3 v4 x13 v6 σ37 hf

def f_M_lay_18 (n : Nat)  (v0 : Option Nat) (v1 : Int32) (v2 : Int32) (v3 : Int32) (v4 : Int32) (v5 : Int32) (w0 : Int32) (σ : Hp) : Option (Int32 × Hp) :=
  if w0 = 0 then
  (
    Option.bind (ld_R σ v0 11 6) fun x8 =>
    Option.bind (al_I σ 0 x8 v1) fun x10 =>
    if x10 = ((-1)) then
    (
      f_M_lay_63 n  v0 v1 v2 v3 v4 w0 σ)
    else
    (
      Option.bind (is_O σ v0 11) fun x76 =>
      Option.bind (f_M_drop v0 x10 2 σ) fun σ78 =>
      Option.bind (is_O σ78 v0 11) fun x80 =>
      Option.bind (f_M_task n v0 2 x10 σ78) fun σ82 =>
      f_M_lay_63 n  v0 v1 v2 v3 v4 w0 σ82))
  else
  (
    Option.bind (is_O σ v0 11) fun x84 =>
    Option.bind (f_M_hear v0 v5 1 σ) fun σ86 =>
    f_M_lay_119 n  v0 v2 v3 v4 v5 w0 σ86)
set_option maxRecDepth 100000 in
theorem b_M_lay_18 {p : Program} {l : Launch} {e : Env} {s : State} {m : MethodId} {args : Array Value} {below : List Frame} {meth : Method} {c : Code} {DD : DT} {σ0 σz : Hp} {rz : Int32} (X : CX p s m args c prog_13_method_32_code 8 (dm σ0) DD y_M_lay.cls) (hret : meth.sig.returnType = some .boolean) (hlk : meth.locks = false) (hnm : meth.name = y_M_lay.name) (n : Nat)   (v0 : Option Nat) (v1 : Int32) (v2 : Int32) (v3 : Int32) (v4 : Int32) (v5 : Int32) (w0 : Int32) (σ : Hp) (hf : f_M_lay_18 n  v0 v1 v2 v3 v4 v5 w0 σ = some (rz, σz)) : GG p l e rm_M_lay s m args below meth c 8 (dm σ0) DD (MQ below (Post DD σ0 (some (tI rz)) σz) args s rm_M_lay.cells rm_M_lay.slots (dm σ0)) 0 0 σ 18 [(0, tR v0), (1, tI v1), (2, tI v2), (3, tI v3), (4, tI v4), (5, tI v5)] [tI w0] := by
  unfold f_M_lay_18 at hf
  refine r_istore (lv' := [(0, tR v0), (1, tI v1), (2, tI v2), (3, tI v3), (4, tI v4), (5, tI v5), (6, tI w0)]) X [1, 2, 3, 4, 5, 6, 0] d_M_lay_18 (Nat.le_of_ble_eq_true rfl) rfl ?_
  refine r_iload X d_M_lay_20 6 rfl ?_
  refine r_if_eq (tgt := 35) X d_M_lay_22 (by decide) (fun hc7 => ?_) (fun hc7 => ?_)
  · have hf := (if_pos hc7).symm.trans hf
    refine r_aload_n X d_M_lay_35 rfl 0 rfl ?_
    obtain ⟨x8, h9, hf⟩ := obind hf
    refine r_ld_R (ci := 11) (k := 6) X h9 (Nat.le_of_ble_eq_true rfl) (Nat.le_of_ble_eq_true rfl) rfl rfl q710 d_M_lay_36 ?_
    refine r_iload_n X d_M_lay_39 rfl 1 rfl ?_
    obtain ⟨x10, h11, hf⟩ := obind hf
    refine r_al_I X h11 d_M_lay_40 ?_
    refine r_istore (lv' := [(0, tR v0), (1, tI v1), (2, tI v2), (3, tI v3), (4, tI v4), (6, tI w0), (7, tI x10)]) X [1, 2, 3, 4, 5, 7, 0] d_M_lay_41 (Nat.le_of_ble_eq_true rfl) rfl ?_
    refine r_iload X d_M_lay_43 6 rfl ?_
    refine r_iconst (v := -1) X d_M_lay_45 (by decide) ?_
    refine r_icmp_eq (tgt := 63) X d_M_lay_46 (by decide) (fun hc12 => ?_) (fun hc12 => ?_)
    · have hf := (if_pos hc12).symm.trans hf
      refine r_widen (kc2 := 0) (ks2 := 0) (Nat.le_of_ble_eq_true rfl) (Nat.le_of_ble_eq_true rfl) ?_
      refine r_sub [0, 1, 2, 3, 4, 5] (lv' := [(0, tR v0), (1, tI v1), (2, tI v2), (3, tI v3), (4, tI v4), (6, tI w0)]) rfl ?_
      exact b_M_lay_63 X hret hlk hnm n   v0 v1 v2 v3 v4 w0 σ hf
    · have hf := (if_neg hc12).symm.trans hf
      refine r_aload_n X d_M_lay_49 rfl 0 rfl ?_
      refine r_iload X d_M_lay_50 6 rfl ?_
      refine r_iconst (v := 2) X d_M_lay_52 (by decide) ?_
      obtain ⟨x76, h75, hf⟩ := obind hf
      obtain ⟨σ78, h77, hf⟩ := obind hf
      refine r_callV (st := []) X [tI x10, tI 2] (ci := 11) h75 (Nat.le_of_ble_eq_true rfl) q898 q900 sl24 (c_M_drop v0 x10 2 h77) q901 q11 y_M_drop_ok rfl ⟨Nat.le_of_ble_eq_true rfl, Nat.le_of_ble_eq_true rfl⟩ (Nat.le_of_ble_eq_true rfl) ⟨Nat.le_of_ble_eq_true rfl, Nat.le_of_ble_eq_true rfl⟩ d_M_lay_53 ?_
      refine r_aload_n X d_M_lay_56 rfl 0 rfl ?_
      refine r_iconst (v := 2) X d_M_lay_57 (by decide) ?_
      refine r_iload X d_M_lay_58 6 rfl ?_
      obtain ⟨x80, h79, hf⟩ := obind hf
      obtain ⟨σ82, h81, hf⟩ := obind hf
      refine r_callV (st := []) X [tI 2, tI x10] (ci := 11) h79 (Nat.le_of_ble_eq_true rfl) q902 q904 sl25 (c_M_task n v0 2 x10 h81) q905 q11 y_M_task_ok rfl ⟨Nat.le_of_ble_eq_true rfl, Nat.le_of_ble_eq_true rfl⟩ (Nat.le_of_ble_eq_true rfl) ⟨Nat.le_of_ble_eq_true rfl, Nat.le_of_ble_eq_true rfl⟩ d_M_lay_60 ?_
      refine r_widen (kc2 := 0) (ks2 := 0) (Nat.le_of_ble_eq_true rfl) (Nat.le_of_ble_eq_true rfl) ?_
      refine r_sub [0, 1, 2, 3, 4, 5] (lv' := [(0, tR v0), (1, tI v1), (2, tI v2), (3, tI v3), (4, tI v4), (6, tI w0)]) rfl ?_
      exact b_M_lay_63 X hret hlk hnm n   v0 v1 v2 v3 v4 w0 σ82 hf
  · have hf := (if_neg hc7).symm.trans hf
    refine r_aload_n X d_M_lay_25 rfl 0 rfl ?_
    refine r_iload X d_M_lay_26 5 rfl ?_
    refine r_iconst (v := 1) X d_M_lay_28 (by decide) ?_
    obtain ⟨x84, h83, hf⟩ := obind hf
    obtain ⟨σ86, h85, hf⟩ := obind hf
    refine r_callV (st := []) X [tI v5, tI 1] (ci := 11) h83 (Nat.le_of_ble_eq_true rfl) q894 q896 sl23 (c_M_hear v0 v5 1 h85) q897 q11 y_M_hear_ok rfl ⟨Nat.le_of_ble_eq_true rfl, Nat.le_of_ble_eq_true rfl⟩ (Nat.le_of_ble_eq_true rfl) ⟨Nat.le_of_ble_eq_true rfl, Nat.le_of_ble_eq_true rfl⟩ d_M_lay_29 ?_
    refine r_goto (tgt := 119) X d_M_lay_32 (by decide) ?_
    refine r_widen (kc2 := 0) (ks2 := 0) (Nat.le_of_ble_eq_true rfl) (Nat.le_of_ble_eq_true rfl) ?_
    refine r_sub [0, 2, 3, 4, 5, 6] (lv' := [(0, tR v0), (2, tI v2), (3, tI v3), (4, tI v4), (5, tI v5), (6, tI w0)]) rfl ?_
    exact b_M_lay_119 X hret hlk hnm n   v0 v2 v3 v4 v5 w0 σ86 hf

def f_M_lay (n : Nat) (v0 : Option Nat) (v1 : Int32) (v2 : Int32) (v3 : Int32) (v4 : Int32) (σ : Hp) : Option (Int32 × Hp) :=
  Option.bind (is_O σ v0 11) fun x2 =>
  pb (f_M_seen v0 v1 σ) fun x5 σ4 =>
  if x5 = ((-1)) then
  (
    f_M_lay_18 n  v0 v1 v2 v3 v4 x5 0 σ4)
  else
  (
    f_M_lay_18 n  v0 v1 v2 v3 v4 x5 1 σ4)
set_option maxRecDepth 100000 in
theorem c_M_lay {l : Launch} {DD : DT} (n : Nat) (v0 : Option Nat) (v1 : Int32) (v2 : Int32) (v3 : Int32) (v4 : Int32) {σ0 σz : Hp} {rz : Int32} (hf : f_M_lay n v0 v1 v2 v3 v4 σ0 = some (rz, σz)) : CT l DD y_M_lay prog_13_method_32_code 8 (some .boolean) rm_M_lay [tR v0, tI v1, tI v2, tI v3, tI v4] σ0 (some (tI rz)) σz := by
  refine r_met (by decide) (Nat.le_of_ble_eq_true rfl) ?_
  intro p e s m args below meth c X hret hlk hnm
  unfold f_M_lay at hf
  refine r_aload_n X d_M_lay_0 rfl 0 rfl ?_
  refine r_iload_n X d_M_lay_1 rfl 1 rfl ?_
  obtain ⟨x2, h1, hf⟩ := obind hf
  obtain ⟨x5, σ4, h3, hf⟩ := pbind hf
  refine r_callV (st := []) X [tI v1] (ci := 11) h1 (Nat.le_of_ble_eq_true rfl) q869 q871 sl19 (c_M_seen v0 v1 h3) q872 q11 y_M_seen_ok rfl ⟨Nat.le_of_ble_eq_true rfl, Nat.le_of_ble_eq_true rfl⟩ (Nat.le_of_ble_eq_true rfl) ⟨Nat.le_of_ble_eq_true rfl, Nat.le_of_ble_eq_true rfl⟩ d_M_lay_2 ?_
  refine r_istore (lv' := [(0, tR v0), (1, tI v1), (2, tI v2), (3, tI v3), (4, tI v4), (5, tI x5)]) X [1, 2, 3, 4, 5, 0] d_M_lay_5 (Nat.le_of_ble_eq_true rfl) rfl ?_
  refine r_iload X d_M_lay_7 5 rfl ?_
  refine r_iconst (v := -1) X d_M_lay_9 (by decide) ?_
  refine r_icmp_eq (tgt := 17) X d_M_lay_10 (by decide) (fun hc6 => ?_) (fun hc6 => ?_)
  · have hf := (if_pos hc6).symm.trans hf
    refine r_iconst (v := 0) X d_M_lay_17 (by decide) ?_
    refine r_widen (kc2 := 0) (ks2 := 0) (Nat.le_of_ble_eq_true rfl) (Nat.le_of_ble_eq_true rfl) ?_
    refine r_sub [0, 1, 2, 3, 4, 5] (lv' := [(0, tR v0), (1, tI v1), (2, tI v2), (3, tI v3), (4, tI v4), (5, tI x5)]) rfl ?_
    exact b_M_lay_18 X hret hlk hnm n   v0 v1 v2 v3 v4 x5 0 σ4 hf
  · have hf := (if_neg hc6).symm.trans hf
    refine r_iconst (v := 1) X d_M_lay_13 (by decide) ?_
    refine r_goto (tgt := 18) X d_M_lay_14 (by decide) ?_
    refine r_widen (kc2 := 0) (ks2 := 0) (Nat.le_of_ble_eq_true rfl) (Nat.le_of_ble_eq_true rfl) ?_
    refine r_sub [0, 1, 2, 3, 4, 5] (lv' := [(0, tR v0), (1, tI v1), (2, tI v2), (3, tI v3), (4, tI v4), (5, tI x5)]) rfl ?_
    exact b_M_lay_18 X hret hlk hnm n   v0 v1 v2 v3 v4 x5 1 σ4 hf

def f_M_put_34 (n : Nat)  (v0 : Option Nat) (v1 : Int32) (v2 : Int32) (v3 : Int32) (v4 : Int32) (w0 : Int32) (w1 : Option Nat) (σ : Hp) : Option (Int32 × Hp) :=
  Option.bind (st_I σ w1 11 0 w0) fun σ5 =>
  Option.bind (ld_I σ5 v0 11 0) fun x7 =>
  if x7 = 0 then
  (
    Option.bind (is_O σ5 v0 11) fun x11 =>
    pb (f_M_lay n v0 v1 v2 v3 v4 σ5) fun x14 σ13 =>
    if x14 = 0 then
    (
      some (0, σ13))
    else
    (
      some (1, σ13)))
  else
  (
    some (0, σ5))
set_option maxRecDepth 100000 in
theorem b_M_put_34 {p : Program} {l : Launch} {e : Env} {s : State} {m : MethodId} {args : Array Value} {below : List Frame} {meth : Method} {c : Code} {DD : DT} {σ0 σz : Hp} {rz : Int32} (X : CX p s m args c prog_13_method_33_code 5 (dm σ0) DD y_M_put.cls) (hret : meth.sig.returnType = some .boolean) (hlk : meth.locks = false) (hnm : meth.name = y_M_put.name) (n : Nat)   (v0 : Option Nat) (v1 : Int32) (v2 : Int32) (v3 : Int32) (v4 : Int32) (w0 : Int32) (w1 : Option Nat) (σ : Hp) (hf : f_M_put_34 n  v0 v1 v2 v3 v4 w0 w1 σ = some (rz, σz)) : GG p l e rm_M_put s m args below meth c 5 (dm σ0) DD (MQ below (Post DD σ0 (some (tI rz)) σz) args s rm_M_put.cells rm_M_put.slots (dm σ0)) 0 0 σ 34 [(0, tR v0), (1, tI v1), (2, tI v2), (3, tI v3), (4, tI v4)] [tI w0, tR w1] := by
  unfold f_M_put_34 at hf
  obtain ⟨σ5, h6, hf⟩ := obind hf
  refine r_st_I (ci := 11) (k := 0) X h6 (Nat.le_of_ble_eq_true rfl) (Nat.le_of_ble_eq_true rfl) rfl rfl rfl q704 d_M_put_34 ?_
  refine r_aload_n X d_M_put_37 rfl 0 rfl ?_
  obtain ⟨x7, h8, hf⟩ := obind hf
  refine r_ld_I (ci := 11) (k := 0) X h8 (Nat.le_of_ble_eq_true rfl) (Nat.le_of_ble_eq_true rfl) (Or.inl rfl) rfl q704 d_M_put_38 ?_
  refine r_if_ne (tgt := 60) X d_M_put_41 (by decide) (fun hc9 => ?_) (fun hc9 => ?_)
  · have hf := (if_neg hc9).symm.trans hf
    refine r_iconst (v := 0) X d_M_put_60 (by decide) ?_
    cases hf
    refine r_widen (kc2 := rm_M_put.cells) (ks2 := rm_M_put.slots) (Nat.le_of_ble_eq_true rfl) (Nat.le_of_ble_eq_true rfl) ?_
    exact r_zret X hret hlk (by decide) d_M_put_61
  · have hf := (if_pos hc9).symm.trans hf
    refine r_aload_n X d_M_put_44 rfl 0 rfl ?_
    refine r_iload_n X d_M_put_45 rfl 1 rfl ?_
    refine r_iload_n X d_M_put_46 rfl 2 rfl ?_
    refine r_iload_n X d_M_put_47 rfl 3 rfl ?_
    refine r_iload X d_M_put_48 4 rfl ?_
    obtain ⟨x11, h10, hf⟩ := obind hf
    obtain ⟨x14, σ13, h12, hf⟩ := pbind hf
    refine r_callV (st := []) X [tI v1, tI v2, tI v3, tI v4] (ci := 11) h10 (Nat.le_of_ble_eq_true rfl) q890 q892 sl22 (c_M_lay n v0 v1 v2 v3 v4 h12) q893 q11 y_M_lay_ok rfl ⟨Nat.le_of_ble_eq_true rfl, Nat.le_of_ble_eq_true rfl⟩ (Nat.le_of_ble_eq_true rfl) ⟨Nat.le_of_ble_eq_true rfl, Nat.le_of_ble_eq_true rfl⟩ d_M_put_50 ?_
    refine r_if_eq (tgt := 60) X d_M_put_53 (by decide) (fun hc15 => ?_) (fun hc15 => ?_)
    · have hf := (if_pos hc15).symm.trans hf
      refine r_iconst (v := 0) X d_M_put_60 (by decide) ?_
      cases hf
      refine r_widen (kc2 := rm_M_put.cells) (ks2 := rm_M_put.slots) (Nat.le_of_ble_eq_true rfl) (Nat.le_of_ble_eq_true rfl) ?_
      exact r_zret X hret hlk (by decide) d_M_put_61
    · have hf := (if_neg hc15).symm.trans hf
      refine r_iconst (v := 1) X d_M_put_56 (by decide) ?_
      refine r_goto (tgt := 61) X d_M_put_57 (by decide) ?_
      cases hf
      refine r_widen (kc2 := rm_M_put.cells) (ks2 := rm_M_put.slots) (Nat.le_of_ble_eq_true rfl) (Nat.le_of_ble_eq_true rfl) ?_
      exact r_zret X hret hlk (by decide) d_M_put_61

def f_M_put_29 (n : Nat)  (v0 : Option Nat) (v1 : Int32) (v2 : Int32) (v3 : Int32) (v4 : Int32) (w0 : Option Nat) (σ : Hp) : Option (Int32 × Hp) :=
  f_M_put_34 n  v0 v1 v2 v3 v4 1 w0 σ
set_option maxRecDepth 100000 in
theorem b_M_put_29 {p : Program} {l : Launch} {e : Env} {s : State} {m : MethodId} {args : Array Value} {below : List Frame} {meth : Method} {c : Code} {DD : DT} {σ0 σz : Hp} {rz : Int32} (X : CX p s m args c prog_13_method_33_code 5 (dm σ0) DD y_M_put.cls) (hret : meth.sig.returnType = some .boolean) (hlk : meth.locks = false) (hnm : meth.name = y_M_put.name) (n : Nat)   (v0 : Option Nat) (v1 : Int32) (v2 : Int32) (v3 : Int32) (v4 : Int32) (w0 : Option Nat) (σ : Hp) (hf : f_M_put_29 n  v0 v1 v2 v3 v4 w0 σ = some (rz, σz)) : GG p l e rm_M_put s m args below meth c 5 (dm σ0) DD (MQ below (Post DD σ0 (some (tI rz)) σz) args s rm_M_put.cells rm_M_put.slots (dm σ0)) 0 0 σ 29 [(0, tR v0), (1, tI v1), (2, tI v2), (3, tI v3), (4, tI v4)] [tR w0] := by
  unfold f_M_put_29 at hf
  refine r_iconst (v := 1) X d_M_put_29 (by decide) ?_
  refine r_goto (tgt := 34) X d_M_put_30 (by decide) ?_
  refine r_widen (kc2 := 0) (ks2 := 0) (Nat.le_of_ble_eq_true rfl) (Nat.le_of_ble_eq_true rfl) ?_
  refine r_sub [0, 1, 2, 3, 4] (lv' := [(0, tR v0), (1, tI v1), (2, tI v2), (3, tI v3), (4, tI v4)]) rfl ?_
  exact b_M_put_34 X hret hlk hnm n   v0 v1 v2 v3 v4 1 w0 σ hf

def f_M_put (n : Nat) (v0 : Option Nat) (v1 : Int32) (v2 : Int32) (v3 : Int32) (v4 : Int32) (σ : Hp) : Option (Int32 × Hp) :=
  pb (f_M_isKey v1 σ) fun x3 σ2 =>
  if x3 = 0 then
  (
    f_M_put_29 n  v0 v1 v2 v3 v4 v0 σ2)
  else
  (
    if v2 < 0 then
    (
      f_M_put_29 n  v0 v1 v2 v3 v4 v0 σ2)
    else
    (
      if v3 < 1 then
      (
        f_M_put_29 n  v0 v1 v2 v3 v4 v0 σ2)
      else
      (
        if 1000 < v3 then
        (
          f_M_put_29 n  v0 v1 v2 v3 v4 v0 σ2)
        else
        (
          if 0 ≤ v4 then
          (
            f_M_put_34 n  v0 v1 v2 v3 v4 0 v0 σ2)
          else
          (
            f_M_put_29 n  v0 v1 v2 v3 v4 v0 σ2)))))
set_option maxRecDepth 100000 in
theorem c_M_put {l : Launch} {DD : DT} (n : Nat) (v0 : Option Nat) (v1 : Int32) (v2 : Int32) (v3 : Int32) (v4 : Int32) {σ0 σz : Hp} {rz : Int32} (hf : f_M_put n v0 v1 v2 v3 v4 σ0 = some (rz, σz)) : CT l DD y_M_put prog_13_method_33_code 5 (some .boolean) rm_M_put [tR v0, tI v1, tI v2, tI v3, tI v4] σ0 (some (tI rz)) σz := by
  refine r_met (by decide) (Nat.le_of_ble_eq_true rfl) ?_
  intro p e s m args below meth c X hret hlk hnm
  unfold f_M_put at hf
  refine r_aload_n X d_M_put_0 rfl 0 rfl ?_
  refine r_iload_n X d_M_put_1 rfl 1 rfl ?_
  obtain ⟨x3, σ2, h1, hf⟩ := pbind hf
  refine r_callS (st := [tR v0]) X [tI v1] q862 q863 (c_M_isKey v1 h1) q864 q11 y_M_isKey_ok rfl ⟨Nat.le_of_ble_eq_true rfl, Nat.le_of_ble_eq_true rfl⟩ (Nat.le_of_ble_eq_true rfl) ⟨Nat.le_of_ble_eq_true rfl, Nat.le_of_ble_eq_true rfl⟩ d_M_put_2 ?_
  refine r_if_eq (tgt := 29) X d_M_put_5 (by decide) (fun hc4 => ?_) (fun hc4 => ?_)
  · have hf := (if_pos hc4).symm.trans hf
    refine r_widen (kc2 := 0) (ks2 := 0) (Nat.le_of_ble_eq_true rfl) (Nat.le_of_ble_eq_true rfl) ?_
    refine r_sub [0, 1, 2, 3, 4] (lv' := [(0, tR v0), (1, tI v1), (2, tI v2), (3, tI v3), (4, tI v4)]) rfl ?_
    exact b_M_put_29 X hret hlk hnm n   v0 v1 v2 v3 v4 v0 σ2 hf
  · have hf := (if_neg hc4).symm.trans hf
    refine r_iload_n X d_M_put_8 rfl 2 rfl ?_
    refine r_if_lt (tgt := 29) X d_M_put_9 (by decide) (fun hc16 => ?_) (fun hc16 => ?_)
    · have hf := (if_pos hc16).symm.trans hf
      refine r_widen (kc2 := 0) (ks2 := 0) (Nat.le_of_ble_eq_true rfl) (Nat.le_of_ble_eq_true rfl) ?_
      refine r_sub [0, 1, 2, 3, 4] (lv' := [(0, tR v0), (1, tI v1), (2, tI v2), (3, tI v3), (4, tI v4)]) rfl ?_
      exact b_M_put_29 X hret hlk hnm n   v0 v1 v2 v3 v4 v0 σ2 hf
    · have hf := (if_neg hc16).symm.trans hf
      refine r_iload_n X d_M_put_12 rfl 3 rfl ?_
      refine r_iconst (v := 1) X d_M_put_13 (by decide) ?_
      refine r_icmp_lt (tgt := 29) X d_M_put_14 (by decide) (fun hc17 => ?_) (fun hc17 => ?_)
      · have hf := (if_pos hc17).symm.trans hf
        refine r_widen (kc2 := 0) (ks2 := 0) (Nat.le_of_ble_eq_true rfl) (Nat.le_of_ble_eq_true rfl) ?_
        refine r_sub [0, 1, 2, 3, 4] (lv' := [(0, tR v0), (1, tI v1), (2, tI v2), (3, tI v3), (4, tI v4)]) rfl ?_
        exact b_M_put_29 X hret hlk hnm n   v0 v1 v2 v3 v4 v0 σ2 hf
      · have hf := (if_neg hc17).symm.trans hf
        refine r_iload_n X d_M_put_17 rfl 3 rfl ?_
        refine r_sipush (v := 1000) X d_M_put_18 (by decide) ?_
        refine r_icmp_gt (tgt := 29) X d_M_put_21 (by decide) (fun hc18 => ?_) (fun hc18 => ?_)
        · have hf := (if_pos hc18).symm.trans hf
          refine r_widen (kc2 := 0) (ks2 := 0) (Nat.le_of_ble_eq_true rfl) (Nat.le_of_ble_eq_true rfl) ?_
          refine r_sub [0, 1, 2, 3, 4] (lv' := [(0, tR v0), (1, tI v1), (2, tI v2), (3, tI v3), (4, tI v4)]) rfl ?_
          exact b_M_put_29 X hret hlk hnm n   v0 v1 v2 v3 v4 v0 σ2 hf
        · have hf := (if_neg hc18).symm.trans hf
          refine r_iload X d_M_put_24 4 rfl ?_
          refine r_if_ge (tgt := 33) X d_M_put_26 (by decide) (fun hc19 => ?_) (fun hc19 => ?_)
          · have hf := (if_pos hc19).symm.trans hf
            refine r_iconst (v := 0) X d_M_put_33 (by decide) ?_
            refine r_widen (kc2 := 0) (ks2 := 0) (Nat.le_of_ble_eq_true rfl) (Nat.le_of_ble_eq_true rfl) ?_
            refine r_sub [0, 1, 2, 3, 4] (lv' := [(0, tR v0), (1, tI v1), (2, tI v2), (3, tI v3), (4, tI v4)]) rfl ?_
            exact b_M_put_34 X hret hlk hnm n   v0 v1 v2 v3 v4 0 v0 σ2 hf
          · have hf := (if_neg hc19).symm.trans hf
            refine r_widen (kc2 := 0) (ks2 := 0) (Nat.le_of_ble_eq_true rfl) (Nat.le_of_ble_eq_true rfl) ?_
            refine r_sub [0, 1, 2, 3, 4] (lv' := [(0, tR v0), (1, tI v1), (2, tI v2), (3, tI v3), (4, tI v4)]) rfl ?_
            exact b_M_put_29 X hret hlk hnm n   v0 v1 v2 v3 v4 v0 σ2 hf

def f_M_remove_64 (n : Nat)  (v0 : Option Nat) (v2 : Int32) (v4 : Int32) (w0 : Int32) (w1 : Int32) (w2 : Option Nat) (σ : Hp) : Option (Int32 × Hp) :=
  Option.bind (is_O σ w2 11) fun x28 =>
  Option.bind (f_M_drop w2 w1 w0 σ) fun σ30 =>
  Option.bind (is_O σ30 v0 11) fun x32 =>
  Option.bind (f_M_task n v0 2 v2 σ30) fun σ34 =>
  some (v4, σ34)
set_option maxRecDepth 100000 in
theorem b_M_remove_64 {p : Program} {l : Launch} {e : Env} {s : State} {m : MethodId} {args : Array Value} {below : List Frame} {meth : Method} {c : Code} {DD : DT} {σ0 σz : Hp} {rz : Int32} (X : CX p s m args c prog_13_method_34_code 5 (dm σ0) DD y_M_remove.cls) (hret : meth.sig.returnType = some .int) (hlk : meth.locks = false) (hnm : meth.name = y_M_remove.name) (n : Nat)   (v0 : Option Nat) (v2 : Int32) (v4 : Int32) (w0 : Int32) (w1 : Int32) (w2 : Option Nat) (σ : Hp) (hf : f_M_remove_64 n  v0 v2 v4 w0 w1 w2 σ = some (rz, σz)) : GG p l e rm_M_remove s m args below meth c 5 (dm σ0) DD (MQ below (Post DD σ0 (some (tI rz)) σz) args s rm_M_remove.cells rm_M_remove.slots (dm σ0)) 0 0 σ 64 [(0, tR v0), (2, tI v2), (4, tI v4)] [tI w0, tI w1, tR w2] := by
  unfold f_M_remove_64 at hf
  obtain ⟨x28, h27, hf⟩ := obind hf
  obtain ⟨σ30, h29, hf⟩ := obind hf
  refine r_callV (st := []) X [tI w1, tI w0] (ci := 11) h27 (Nat.le_of_ble_eq_true rfl) q898 q900 sl24 (c_M_drop w2 w1 w0 h29) q901 q11 y_M_drop_ok rfl ⟨Nat.le_of_ble_eq_true rfl, Nat.le_of_ble_eq_true rfl⟩ (Nat.le_of_ble_eq_true rfl) ⟨Nat.le_of_ble_eq_true rfl, Nat.le_of_ble_eq_true rfl⟩ d_M_remove_64 ?_
  refine r_aload_n X d_M_remove_67 rfl 0 rfl ?_
  refine r_iconst (v := 2) X d_M_remove_68 (by decide) ?_
  refine r_iload_n X d_M_remove_69 rfl 1 rfl ?_
  obtain ⟨x32, h31, hf⟩ := obind hf
  obtain ⟨σ34, h33, hf⟩ := obind hf
  refine r_callV (st := []) X [tI 2, tI v2] (ci := 11) h31 (Nat.le_of_ble_eq_true rfl) q902 q904 sl25 (c_M_task n v0 2 v2 h33) q905 q11 y_M_task_ok rfl ⟨Nat.le_of_ble_eq_true rfl, Nat.le_of_ble_eq_true rfl⟩ (Nat.le_of_ble_eq_true rfl) ⟨Nat.le_of_ble_eq_true rfl, Nat.le_of_ble_eq_true rfl⟩ d_M_remove_70 ?_
  refine r_iload X d_M_remove_73 2 rfl ?_
  cases hf
  refine r_widen (kc2 := rm_M_remove.cells) (ks2 := rm_M_remove.slots) (Nat.le_of_ble_eq_true rfl) (Nat.le_of_ble_eq_true rfl) ?_
  exact r_iret X hret hlk d_M_remove_75

def f_M_remove_51 (n : Nat)  (v0 : Option Nat) (v2 : Int32) (v3 : Int32) (w0 : Int32) (σ : Hp) : Option (Int32 × Hp) :=
  if v3 = 0 then
  (
    f_M_remove_64 n  v0 v2 w0 0 v2 v0 σ)
  else
  (
    f_M_remove_64 n  v0 v2 w0 2 v2 v0 σ)
set_option maxRecDepth 100000 in
theorem b_M_remove_51 {p : Program} {l : Launch} {e : Env} {s : State} {m : MethodId} {args : Array Value} {below : List Frame} {meth : Method} {c : Code} {DD : DT} {σ0 σz : Hp} {rz : Int32} (X : CX p s m args c prog_13_method_34_code 5 (dm σ0) DD y_M_remove.cls) (hret : meth.sig.returnType = some .int) (hlk : meth.locks = false) (hnm : meth.name = y_M_remove.name) (n : Nat)   (v0 : Option Nat) (v2 : Int32) (v3 : Int32) (w0 : Int32) (σ : Hp) (hf : f_M_remove_51 n  v0 v2 v3 w0 σ = some (rz, σz)) : GG p l e rm_M_remove s m args below meth c 5 (dm σ0) DD (MQ below (Post DD σ0 (some (tI rz)) σz) args s rm_M_remove.cells rm_M_remove.slots (dm σ0)) 0 0 σ 51 [(0, tR v0), (2, tI v2), (3, tI v3)] [tI w0] := by
  unfold f_M_remove_51 at hf
  refine r_istore (lv' := [(0, tR v0), (2, tI v2), (3, tI v3), (4, tI w0)]) X [1, 2, 3, 0] d_M_remove_51 (Nat.le_of_ble_eq_true rfl) rfl ?_
  refine r_aload_n X d_M_remove_53 rfl 0 rfl ?_
  refine r_iload_n X d_M_remove_54 rfl 1 rfl ?_
  refine r_iload_n X d_M_remove_55 rfl 2 rfl ?_
  refine r_if_eq (tgt := 63) X d_M_remove_56 (by decide) (fun hc26 => ?_) (fun hc26 => ?_)
  · have hf := (if_pos hc26).symm.trans hf
    refine r_iconst (v := 0) X d_M_remove_63 (by decide) ?_
    refine r_widen (kc2 := 0) (ks2 := 0) (Nat.le_of_ble_eq_true rfl) (Nat.le_of_ble_eq_true rfl) ?_
    refine r_sub [0, 1, 3] (lv' := [(0, tR v0), (2, tI v2), (4, tI w0)]) rfl ?_
    exact b_M_remove_64 X hret hlk hnm n   v0 v2 w0 0 v2 v0 σ hf
  · have hf := (if_neg hc26).symm.trans hf
    refine r_iconst (v := 2) X d_M_remove_59 (by decide) ?_
    refine r_goto (tgt := 64) X d_M_remove_60 (by decide) ?_
    refine r_widen (kc2 := 0) (ks2 := 0) (Nat.le_of_ble_eq_true rfl) (Nat.le_of_ble_eq_true rfl) ?_
    refine r_sub [0, 1, 3] (lv' := [(0, tR v0), (2, tI v2), (4, tI w0)]) rfl ?_
    exact b_M_remove_64 X hret hlk hnm n   v0 v2 w0 2 v2 v0 σ hf

def f_M_remove (n : Nat) (v0 : Option Nat) (v1 : Int32) (σ : Hp) : Option (Int32 × Hp) :=
  Option.bind (st_I σ v0 11 0 0) fun σ1 =>
  pb (f_M_isKey v1 σ1) fun x5 σ4 =>
  if x5 = 0 then
  (
    some ((-1), σ4))
  else
  (
    Option.bind (ld_R σ4 v0 11 6) fun x7 =>
    Option.bind (al_I σ4 0 x7 v1) fun x9 =>
    if x9 = ((-1)) then
    (
      some ((-1), σ4))
    else
    (
      Option.bind (ld_R σ4 v0 11 6) fun x12 =>
      Option.bind (al_I σ4 0 x12 v1) fun x14 =>
      Option.bind (is_O σ4 v0 11) fun x17 =>
      pb (f_M_isOver v0 x14 σ4) fun x20 σ19 =>
      if x20 = 0 then
      (
        Option.bind (ld_R σ19 v0 11 12) fun x22 =>
        Option.bind (al_I σ19 0 x22 x14) fun x24 =>
        f_M_remove_51 n  v0 x14 x20 x24 σ19)
      else
      (
        f_M_remove_51 n  v0 x14 x20 ((-1)) σ19)))
set_option maxRecDepth 100000 in
theorem c_M_remove {l : Launch} {DD : DT} (n : Nat) (v0 : Option Nat) (v1 : Int32) {σ0 σz : Hp} {rz : Int32} (hf : f_M_remove n v0 v1 σ0 = some (rz, σz)) : CT l DD y_M_remove prog_13_method_34_code 5 (some .int) rm_M_remove [tR v0, tI v1] σ0 (some (tI rz)) σz := by
  refine r_met (by decide) (Nat.le_of_ble_eq_true rfl) ?_
  intro p e s m args below meth c X hret hlk hnm
  unfold f_M_remove at hf
  refine r_aload_n X d_M_remove_0 rfl 0 rfl ?_
  refine r_iconst (v := 0) X d_M_remove_1 (by decide) ?_
  obtain ⟨σ1, h2, hf⟩ := obind hf
  refine r_st_I (ci := 11) (k := 0) X h2 (Nat.le_of_ble_eq_true rfl) (Nat.le_of_ble_eq_true rfl) rfl rfl rfl q704 d_M_remove_2 ?_
  refine r_iload_n X d_M_remove_5 rfl 1 rfl ?_
  obtain ⟨x5, σ4, h3, hf⟩ := pbind hf
  refine r_callS (st := []) X [tI v1] q862 q863 (c_M_isKey v1 h3) q864 q11 y_M_isKey_ok rfl ⟨Nat.le_of_ble_eq_true rfl, Nat.le_of_ble_eq_true rfl⟩ (Nat.le_of_ble_eq_true rfl) ⟨Nat.le_of_ble_eq_true rfl, Nat.le_of_ble_eq_true rfl⟩ d_M_remove_6 ?_
  refine r_if_eq (tgt := 22) X d_M_remove_9 (by decide) (fun hc6 => ?_) (fun hc6 => ?_)
  · have hf := (if_pos hc6).symm.trans hf
    refine r_iconst (v := -1) X d_M_remove_22 (by decide) ?_
    cases hf
    refine r_widen (kc2 := rm_M_remove.cells) (ks2 := rm_M_remove.slots) (Nat.le_of_ble_eq_true rfl) (Nat.le_of_ble_eq_true rfl) ?_
    exact r_iret X hret hlk d_M_remove_23
  · have hf := (if_neg hc6).symm.trans hf
    refine r_aload_n X d_M_remove_12 rfl 0 rfl ?_
    obtain ⟨x7, h8, hf⟩ := obind hf
    refine r_ld_R (ci := 11) (k := 6) X h8 (Nat.le_of_ble_eq_true rfl) (Nat.le_of_ble_eq_true rfl) rfl rfl q710 d_M_remove_13 ?_
    refine r_iload_n X d_M_remove_16 rfl 1 rfl ?_
    obtain ⟨x9, h10, hf⟩ := obind hf
    refine r_al_I X h10 d_M_remove_17 ?_
    refine r_iconst (v := -1) X d_M_remove_18 (by decide) ?_
    refine r_icmp_ne (tgt := 24) X d_M_remove_19 (by decide) (fun hc11 => ?_) (fun hc11 => ?_)
    · have hf := (if_neg hc11).symm.trans hf
      refine r_aload_n X d_M_remove_24 rfl 0 rfl ?_
      obtain ⟨x12, h13, hf⟩ := obind hf
      refine r_ld_R (ci := 11) (k := 6) X h13 (Nat.le_of_ble_eq_true rfl) (Nat.le_of_ble_eq_true rfl) rfl rfl q710 d_M_remove_25 ?_
      refine r_iload_n X d_M_remove_28 rfl 1 rfl ?_
      obtain ⟨x14, h15, hf⟩ := obind hf
      refine r_al_I X h15 d_M_remove_29 ?_
      refine r_istore_n (lv' := [(0, tR v0), (2, tI x14)]) X [1, 0] d_M_remove_30 rfl (Nat.le_of_ble_eq_true rfl) rfl ?_
      refine r_aload_n X d_M_remove_31 rfl 0 rfl ?_
      refine r_iload_n X d_M_remove_32 rfl 1 rfl ?_
      obtain ⟨x17, h16, hf⟩ := obind hf
      obtain ⟨x20, σ19, h18, hf⟩ := pbind hf
      refine r_callV (st := []) X [tI x14] (ci := 11) h16 (Nat.le_of_ble_eq_true rfl) q873 q875 sl20 (c_M_isOver v0 x14 h18) q876 q11 y_M_isOver_ok rfl ⟨Nat.le_of_ble_eq_true rfl, Nat.le_of_ble_eq_true rfl⟩ (Nat.le_of_ble_eq_true rfl) ⟨Nat.le_of_ble_eq_true rfl, Nat.le_of_ble_eq_true rfl⟩ d_M_remove_33 ?_
      refine r_istore_n (lv' := [(0, tR v0), (2, tI x14), (3, tI x20)]) X [1, 2, 0] d_M_remove_36 rfl (Nat.le_of_ble_eq_true rfl) rfl ?_
      refine r_iload_n X d_M_remove_37 rfl 2 rfl ?_
      refine r_if_eq (tgt := 45) X d_M_remove_38 (by decide) (fun hc21 => ?_) (fun hc21 => ?_)
      · have hf := (if_pos hc21).symm.trans hf
        refine r_aload_n X d_M_remove_45 rfl 0 rfl ?_
        obtain ⟨x22, h23, hf⟩ := obind hf
        refine r_ld_R (ci := 11) (k := 12) X h23 (Nat.le_of_ble_eq_true rfl) (Nat.le_of_ble_eq_true rfl) rfl rfl q716 d_M_remove_46 ?_
        refine r_iload_n X d_M_remove_49 rfl 1 rfl ?_
        obtain ⟨x24, h25, hf⟩ := obind hf
        refine r_al_I X h25 d_M_remove_50 ?_
        refine r_widen (kc2 := 0) (ks2 := 0) (Nat.le_of_ble_eq_true rfl) (Nat.le_of_ble_eq_true rfl) ?_
        refine r_sub [0, 1, 2] (lv' := [(0, tR v0), (2, tI x14), (3, tI x20)]) rfl ?_
        exact b_M_remove_51 X hret hlk hnm n   v0 x14 x20 x24 σ19 hf
      · have hf := (if_neg hc21).symm.trans hf
        refine r_iconst (v := -1) X d_M_remove_41 (by decide) ?_
        refine r_goto (tgt := 51) X d_M_remove_42 (by decide) ?_
        refine r_widen (kc2 := 0) (ks2 := 0) (Nat.le_of_ble_eq_true rfl) (Nat.le_of_ble_eq_true rfl) ?_
        refine r_sub [0, 1, 2] (lv' := [(0, tR v0), (2, tI x14), (3, tI x20)]) rfl ?_
        exact b_M_remove_51 X hret hlk hnm n   v0 x14 x20 ((-1)) σ19 hf
    · have hf := (if_pos hc11).symm.trans hf
      refine r_iconst (v := -1) X d_M_remove_22 (by decide) ?_
      cases hf
      refine r_widen (kc2 := rm_M_remove.cells) (ks2 := rm_M_remove.slots) (Nat.le_of_ble_eq_true rfl) (Nat.le_of_ble_eq_true rfl) ?_
      exact r_iret X hret hlk d_M_remove_23

def f_M_load_53  (v0 : Option Nat) (v1 : Int32) (w0 : Int32) (w1 : Option Nat) (σ : Hp) : Option (Int32 × Hp) :=
  Option.bind (st_I σ w1 11 0 w0) fun σ21 =>
  Option.bind (ld_I σ21 v0 11 0) fun x23 =>
  if x23 ≤ 0 then
  (
    Option.bind (ld_R σ21 v0 11 7) fun x26 =>
    Option.bind (as_I σ21 0 x26 v1 1) fun σ28 =>
    some ((-2), σ28))
  else
  (
    some (0, σ21))
set_option maxRecDepth 100000 in
theorem b_M_load_53 {p : Program} {l : Launch} {e : Env} {s : State} {m : MethodId} {args : Array Value} {below : List Frame} {meth : Method} {c : Code} {DD : DT} {σ0 σz : Hp} {rz : Int32} (X : CX p s m args c prog_13_method_35_code 3 (dm σ0) DD y_M_load.cls) (hret : meth.sig.returnType = some .int) (hlk : meth.locks = false) (hnm : meth.name = y_M_load.name)   (v0 : Option Nat) (v1 : Int32) (w0 : Int32) (w1 : Option Nat) (σ : Hp) (hf : f_M_load_53  v0 v1 w0 w1 σ = some (rz, σz)) : GG p l e rm_M_load s m args below meth c 3 (dm σ0) DD (MQ below (Post DD σ0 (some (tI rz)) σz) args s rm_M_load.cells rm_M_load.slots (dm σ0)) 0 0 σ 53 [(0, tR v0), (1, tI v1)] [tI w0, tR w1] := by
  unfold f_M_load_53 at hf
  obtain ⟨σ21, h22, hf⟩ := obind hf
  refine r_st_I (ci := 11) (k := 0) X h22 (Nat.le_of_ble_eq_true rfl) (Nat.le_of_ble_eq_true rfl) rfl rfl rfl q704 d_M_load_53 ?_
  refine r_aload_n X d_M_load_56 rfl 0 rfl ?_
  obtain ⟨x23, h24, hf⟩ := obind hf
  refine r_ld_I (ci := 11) (k := 0) X h24 (Nat.le_of_ble_eq_true rfl) (Nat.le_of_ble_eq_true rfl) (Or.inl rfl) rfl q704 d_M_load_57 ?_
  refine r_if_le (tgt := 65) X d_M_load_60 (by decide) (fun hc25 => ?_) (fun hc25 => ?_)
  · have hf := (if_pos hc25).symm.trans hf
    refine r_aload_n X d_M_load_65 rfl 0 rfl ?_
    obtain ⟨x26, h27, hf⟩ := obind hf
    refine r_ld_R (ci := 11) (k := 7) X h27 (Nat.le_of_ble_eq_true rfl) (Nat.le_of_ble_eq_true rfl) rfl rfl q711 d_M_load_66 ?_
    refine r_iload_n X d_M_load_69 rfl 1 rfl ?_
    refine r_iconst (v := 1) X d_M_load_70 (by decide) ?_
    obtain ⟨σ28, h29, hf⟩ := obind hf
    refine r_as_I X h29 d_M_load_71 ?_
    refine r_bipush (v := -2) X d_M_load_72 (by decide) ?_
    cases hf
    refine r_widen (kc2 := rm_M_load.cells) (ks2 := rm_M_load.slots) (Nat.le_of_ble_eq_true rfl) (Nat.le_of_ble_eq_true rfl) ?_
    exact r_iret X hret hlk d_M_load_74
  · have hf := (if_neg hc25).symm.trans hf
    refine r_iconst (v := 0) X d_M_load_63 (by decide) ?_
    cases hf
    refine r_widen (kc2 := rm_M_load.cells) (ks2 := rm_M_load.slots) (Nat.le_of_ble_eq_true rfl) (Nat.le_of_ble_eq_true rfl) ?_
    exact r_iret X hret hlk d_M_load_64

def f_M_load_13  (v0 : Option Nat) (v1 : Int32) (w0 : Int32) (w1 : Option Nat) (σ : Hp) : Option (Int32 × Hp) :=
  Option.bind (st_I σ w1 11 0 w0) fun σ5 =>
  Option.bind (ld_I σ5 v0 11 0) fun x7 =>
  if x7 ≤ 0 then
  (
    Option.bind (is_O σ5 v0 11) fun x11 =>
    pb (f_M_got v0 v1 σ5) fun x14 σ13 =>
    if x14 = ((-1)) then
    (
      Option.bind (ld_R σ13 v0 11 7) fun x16 =>
      Option.bind (al_I σ13 0 x16 v1) fun x18 =>
      if x18 ≤ 0 then
      (
        f_M_load_53  v0 v1 0 v0 σ13)
      else
      (
        f_M_load_53  v0 v1 2 v0 σ13))
    else
    (
      some (x14, σ13)))
  else
  (
    some (0, σ5))
set_option maxRecDepth 100000 in
theorem b_M_load_13 {p : Program} {l : Launch} {e : Env} {s : State} {m : MethodId} {args : Array Value} {below : List Frame} {meth : Method} {c : Code} {DD : DT} {σ0 σz : Hp} {rz : Int32} (X : CX p s m args c prog_13_method_35_code 3 (dm σ0) DD y_M_load.cls) (hret : meth.sig.returnType = some .int) (hlk : meth.locks = false) (hnm : meth.name = y_M_load.name)   (v0 : Option Nat) (v1 : Int32) (w0 : Int32) (w1 : Option Nat) (σ : Hp) (hf : f_M_load_13  v0 v1 w0 w1 σ = some (rz, σz)) : GG p l e rm_M_load s m args below meth c 3 (dm σ0) DD (MQ below (Post DD σ0 (some (tI rz)) σz) args s rm_M_load.cells rm_M_load.slots (dm σ0)) 0 0 σ 13 [(0, tR v0), (1, tI v1)] [tI w0, tR w1] := by
  unfold f_M_load_13 at hf
  obtain ⟨σ5, h6, hf⟩ := obind hf
  refine r_st_I (ci := 11) (k := 0) X h6 (Nat.le_of_ble_eq_true rfl) (Nat.le_of_ble_eq_true rfl) rfl rfl rfl q704 d_M_load_13 ?_
  refine r_aload_n X d_M_load_16 rfl 0 rfl ?_
  obtain ⟨x7, h8, hf⟩ := obind hf
  refine r_ld_I (ci := 11) (k := 0) X h8 (Nat.le_of_ble_eq_true rfl) (Nat.le_of_ble_eq_true rfl) (Or.inl rfl) rfl q704 d_M_load_17 ?_
  refine r_if_le (tgt := 25) X d_M_load_20 (by decide) (fun hc9 => ?_) (fun hc9 => ?_)
  · have hf := (if_pos hc9).symm.trans hf
    refine r_aload_n X d_M_load_25 rfl 0 rfl ?_
    refine r_iload_n X d_M_load_26 rfl 1 rfl ?_
    obtain ⟨x11, h10, hf⟩ := obind hf
    obtain ⟨x14, σ13, h12, hf⟩ := pbind hf
    refine r_callV (st := []) X [tI v1] (ci := 11) h10 (Nat.le_of_ble_eq_true rfl) q865 q867 sl18 (c_M_got v0 v1 h12) q868 q11 y_M_got_ok rfl ⟨Nat.le_of_ble_eq_true rfl, Nat.le_of_ble_eq_true rfl⟩ (Nat.le_of_ble_eq_true rfl) ⟨Nat.le_of_ble_eq_true rfl, Nat.le_of_ble_eq_true rfl⟩ d_M_load_27 ?_
    refine r_istore_n (lv' := [(0, tR v0), (1, tI v1), (2, tI x14)]) X [1, 2, 0] d_M_load_30 rfl (Nat.le_of_ble_eq_true rfl) rfl ?_
    refine r_iload_n X d_M_load_31 rfl 2 rfl ?_
    refine r_iconst (v := -1) X d_M_load_32 (by decide) ?_
    refine r_icmp_eq (tgt := 38) X d_M_load_33 (by decide) (fun hc15 => ?_) (fun hc15 => ?_)
    · have hf := (if_pos hc15).symm.trans hf
      refine r_aload_n X d_M_load_38 rfl 0 rfl ?_
      refine r_aload_n X d_M_load_39 rfl 0 rfl ?_
      obtain ⟨x16, h17, hf⟩ := obind hf
      refine r_ld_R (ci := 11) (k := 7) X h17 (Nat.le_of_ble_eq_true rfl) (Nat.le_of_ble_eq_true rfl) rfl rfl q711 d_M_load_40 ?_
      refine r_iload_n X d_M_load_43 rfl 1 rfl ?_
      obtain ⟨x18, h19, hf⟩ := obind hf
      refine r_al_I X h19 d_M_load_44 ?_
      refine r_if_le (tgt := 52) X d_M_load_45 (by decide) (fun hc20 => ?_) (fun hc20 => ?_)
      · have hf := (if_pos hc20).symm.trans hf
        refine r_iconst (v := 0) X d_M_load_52 (by decide) ?_
        refine r_widen (kc2 := 0) (ks2 := 0) (Nat.le_of_ble_eq_true rfl) (Nat.le_of_ble_eq_true rfl) ?_
        refine r_sub [0, 1] (lv' := [(0, tR v0), (1, tI v1)]) rfl ?_
        exact b_M_load_53 X hret hlk hnm   v0 v1 0 v0 σ13 hf
      · have hf := (if_neg hc20).symm.trans hf
        refine r_iconst (v := 2) X d_M_load_48 (by decide) ?_
        refine r_goto (tgt := 53) X d_M_load_49 (by decide) ?_
        refine r_widen (kc2 := 0) (ks2 := 0) (Nat.le_of_ble_eq_true rfl) (Nat.le_of_ble_eq_true rfl) ?_
        refine r_sub [0, 1] (lv' := [(0, tR v0), (1, tI v1)]) rfl ?_
        exact b_M_load_53 X hret hlk hnm   v0 v1 2 v0 σ13 hf
    · have hf := (if_neg hc15).symm.trans hf
      refine r_iload_n X d_M_load_36 rfl 2 rfl ?_
      cases hf
      refine r_widen (kc2 := rm_M_load.cells) (ks2 := rm_M_load.slots) (Nat.le_of_ble_eq_true rfl) (Nat.le_of_ble_eq_true rfl) ?_
      exact r_iret X hret hlk d_M_load_37
  · have hf := (if_neg hc9).symm.trans hf
    refine r_iconst (v := 0) X d_M_load_23 (by decide) ?_
    cases hf
    refine r_widen (kc2 := rm_M_load.cells) (ks2 := rm_M_load.slots) (Nat.le_of_ble_eq_true rfl) (Nat.le_of_ble_eq_true rfl) ?_
    exact r_iret X hret hlk d_M_load_24

def f_M_load (v0 : Option Nat) (v1 : Int32) (σ : Hp) : Option (Int32 × Hp) :=
  pb (f_M_isKey v1 σ) fun x3 σ2 =>
  if x3 = 0 then
  (
    f_M_load_13  v0 v1 1 v0 σ2)
  else
  (
    f_M_load_13  v0 v1 0 v0 σ2)
set_option maxRecDepth 100000 in
theorem c_M_load {l : Launch} {DD : DT} (v0 : Option Nat) (v1 : Int32) {σ0 σz : Hp} {rz : Int32} (hf : f_M_load v0 v1 σ0 = some (rz, σz)) : CT l DD y_M_load prog_13_method_35_code 3 (some .int) rm_M_load [tR v0, tI v1] σ0 (some (tI rz)) σz := by
  refine r_met (by decide) (Nat.le_of_ble_eq_true rfl) ?_
  intro p e s m args below meth c X hret hlk hnm
  unfold f_M_load at hf
  refine r_aload_n X d_M_load_0 rfl 0 rfl ?_
  refine r_iload_n X d_M_load_1 rfl 1 rfl ?_
  obtain ⟨x3, σ2, h1, hf⟩ := pbind hf
  refine r_callS (st := [tR v0]) X [tI v1] q862 q863 (c_M_isKey v1 h1) q864 q11 y_M_isKey_ok rfl ⟨Nat.le_of_ble_eq_true rfl, Nat.le_of_ble_eq_true rfl⟩ (Nat.le_of_ble_eq_true rfl) ⟨Nat.le_of_ble_eq_true rfl, Nat.le_of_ble_eq_true rfl⟩ d_M_load_2 ?_
  refine r_if_eq (tgt := 12) X d_M_load_5 (by decide) (fun hc4 => ?_) (fun hc4 => ?_)
  · have hf := (if_pos hc4).symm.trans hf
    refine r_iconst (v := 1) X d_M_load_12 (by decide) ?_
    refine r_widen (kc2 := 0) (ks2 := 0) (Nat.le_of_ble_eq_true rfl) (Nat.le_of_ble_eq_true rfl) ?_
    refine r_sub [0, 1] (lv' := [(0, tR v0), (1, tI v1)]) rfl ?_
    exact b_M_load_13 X hret hlk hnm   v0 v1 1 v0 σ2 hf
  · have hf := (if_neg hc4).symm.trans hf
    refine r_iconst (v := 0) X d_M_load_8 (by decide) ?_
    refine r_goto (tgt := 13) X d_M_load_9 (by decide) ?_
    refine r_widen (kc2 := 0) (ks2 := 0) (Nat.le_of_ble_eq_true rfl) (Nat.le_of_ble_eq_true rfl) ?_
    refine r_sub [0, 1] (lv' := [(0, tR v0), (1, tI v1)]) rfl ?_
    exact b_M_load_13 X hret hlk hnm   v0 v1 0 v0 σ2 hf

def f_M_refresh (v0 : Option Nat) (v1 : Int32) (σ : Hp) : Option (Int32 × Hp) :=
  Option.bind (st_I σ v0 11 0 0) fun σ1 =>
  pb (f_M_isKey v1 σ1) fun x5 σ4 =>
  if x5 = 0 then
  (
    some (0, σ4))
  else
  (
    Option.bind (is_O σ4 v0 11) fun x8 =>
    pb (f_M_seen v0 v1 σ4) fun x11 σ10 =>
    if x11 = ((-1)) then
    (
      some (0, σ10))
    else
    (
      Option.bind (ld_R σ10 v0 11 7) fun x13 =>
      Option.bind (al_I σ10 0 x13 v1) fun x15 =>
      if x15 ≤ 0 then
      (
        Option.bind (ld_R σ10 v0 11 7) fun x18 =>
        Option.bind (as_I σ10 0 x18 v1 2) fun σ20 =>
        Option.bind (ld_R σ20 v0 11 8) fun x22 =>
        Option.bind (ld_R σ20 v0 11 6) fun x24 =>
        Option.bind (al_I σ20 0 x24 v1) fun x26 =>
        Option.bind (as_I σ20 0 x22 v1 x26) fun σ28 =>
        Option.bind (ld_R σ28 v0 11 9) fun x30 =>
        Option.bind (ld_R σ28 v0 11 16) fun x32 =>
        Option.bind (ld_R σ28 v0 11 6) fun x34 =>
        Option.bind (al_I σ28 0 x34 v1) fun x36 =>
        Option.bind (al_I σ28 0 x32 x36) fun x38 =>
        Option.bind (as_I σ28 0 x30 v1 x38) fun σ40 =>
        some (1, σ40))
      else
      (
        some (0, σ10))))
set_option maxRecDepth 100000 in
theorem c_M_refresh {l : Launch} {DD : DT} (v0 : Option Nat) (v1 : Int32) {σ0 σz : Hp} {rz : Int32} (hf : f_M_refresh v0 v1 σ0 = some (rz, σz)) : CT l DD y_M_refresh prog_13_method_36_code 2 (some .boolean) rm_M_refresh [tR v0, tI v1] σ0 (some (tI rz)) σz := by
  refine r_met (by decide) (Nat.le_of_ble_eq_true rfl) ?_
  intro p e s m args below meth c X hret hlk hnm
  unfold f_M_refresh at hf
  refine r_aload_n X d_M_refresh_0 rfl 0 rfl ?_
  refine r_iconst (v := 0) X d_M_refresh_1 (by decide) ?_
  obtain ⟨σ1, h2, hf⟩ := obind hf
  refine r_st_I (ci := 11) (k := 0) X h2 (Nat.le_of_ble_eq_true rfl) (Nat.le_of_ble_eq_true rfl) rfl rfl rfl q704 d_M_refresh_2 ?_
  refine r_iload_n X d_M_refresh_5 rfl 1 rfl ?_
  obtain ⟨x5, σ4, h3, hf⟩ := pbind hf
  refine r_callS (st := []) X [tI v1] q862 q863 (c_M_isKey v1 h3) q864 q11 y_M_isKey_ok rfl ⟨Nat.le_of_ble_eq_true rfl, Nat.le_of_ble_eq_true rfl⟩ (Nat.le_of_ble_eq_true rfl) ⟨Nat.le_of_ble_eq_true rfl, Nat.le_of_ble_eq_true rfl⟩ d_M_refresh_6 ?_
  refine r_if_eq (tgt := 30) X d_M_refresh_9 (by decide) (fun hc6 => ?_) (fun hc6 => ?_)
  · have hf := (if_pos hc6).symm.trans hf
    refine r_iconst (v := 0) X d_M_refresh_30 (by decide) ?_
    cases hf
    refine r_widen (kc2 := rm_M_refresh.cells) (ks2 := rm_M_refresh.slots) (Nat.le_of_ble_eq_true rfl) (Nat.le_of_ble_eq_true rfl) ?_
    exact r_zret X hret hlk (by decide) d_M_refresh_31
  · have hf := (if_neg hc6).symm.trans hf
    refine r_aload_n X d_M_refresh_12 rfl 0 rfl ?_
    refine r_iload_n X d_M_refresh_13 rfl 1 rfl ?_
    obtain ⟨x8, h7, hf⟩ := obind hf
    obtain ⟨x11, σ10, h9, hf⟩ := pbind hf
    refine r_callV (st := []) X [tI v1] (ci := 11) h7 (Nat.le_of_ble_eq_true rfl) q869 q871 sl19 (c_M_seen v0 v1 h9) q872 q11 y_M_seen_ok rfl ⟨Nat.le_of_ble_eq_true rfl, Nat.le_of_ble_eq_true rfl⟩ (Nat.le_of_ble_eq_true rfl) ⟨Nat.le_of_ble_eq_true rfl, Nat.le_of_ble_eq_true rfl⟩ d_M_refresh_14 ?_
    refine r_iconst (v := -1) X d_M_refresh_17 (by decide) ?_
    refine r_icmp_eq (tgt := 30) X d_M_refresh_18 (by decide) (fun hc12 => ?_) (fun hc12 => ?_)
    · have hf := (if_pos hc12).symm.trans hf
      refine r_iconst (v := 0) X d_M_refresh_30 (by decide) ?_
      cases hf
      refine r_widen (kc2 := rm_M_refresh.cells) (ks2 := rm_M_refresh.slots) (Nat.le_of_ble_eq_true rfl) (Nat.le_of_ble_eq_true rfl) ?_
      exact r_zret X hret hlk (by decide) d_M_refresh_31
    · have hf := (if_neg hc12).symm.trans hf
      refine r_aload_n X d_M_refresh_21 rfl 0 rfl ?_
      obtain ⟨x13, h14, hf⟩ := obind hf
      refine r_ld_R (ci := 11) (k := 7) X h14 (Nat.le_of_ble_eq_true rfl) (Nat.le_of_ble_eq_true rfl) rfl rfl q711 d_M_refresh_22 ?_
      refine r_iload_n X d_M_refresh_25 rfl 1 rfl ?_
      obtain ⟨x15, h16, hf⟩ := obind hf
      refine r_al_I X h16 d_M_refresh_26 ?_
      refine r_if_le (tgt := 32) X d_M_refresh_27 (by decide) (fun hc17 => ?_) (fun hc17 => ?_)
      · have hf := (if_pos hc17).symm.trans hf
        refine r_aload_n X d_M_refresh_32 rfl 0 rfl ?_
        obtain ⟨x18, h19, hf⟩ := obind hf
        refine r_ld_R (ci := 11) (k := 7) X h19 (Nat.le_of_ble_eq_true rfl) (Nat.le_of_ble_eq_true rfl) rfl rfl q711 d_M_refresh_33 ?_
        refine r_iload_n X d_M_refresh_36 rfl 1 rfl ?_
        refine r_iconst (v := 2) X d_M_refresh_37 (by decide) ?_
        obtain ⟨σ20, h21, hf⟩ := obind hf
        refine r_as_I X h21 d_M_refresh_38 ?_
        refine r_aload_n X d_M_refresh_39 rfl 0 rfl ?_
        obtain ⟨x22, h23, hf⟩ := obind hf
        refine r_ld_R (ci := 11) (k := 8) X h23 (Nat.le_of_ble_eq_true rfl) (Nat.le_of_ble_eq_true rfl) rfl rfl q712 d_M_refresh_40 ?_
        refine r_iload_n X d_M_refresh_43 rfl 1 rfl ?_
        refine r_aload_n X d_M_refresh_44 rfl 0 rfl ?_
        obtain ⟨x24, h25, hf⟩ := obind hf
        refine r_ld_R (ci := 11) (k := 6) X h25 (Nat.le_of_ble_eq_true rfl) (Nat.le_of_ble_eq_true rfl) rfl rfl q710 d_M_refresh_45 ?_
        refine r_iload_n X d_M_refresh_48 rfl 1 rfl ?_
        obtain ⟨x26, h27, hf⟩ := obind hf
        refine r_al_I X h27 d_M_refresh_49 ?_
        obtain ⟨σ28, h29, hf⟩ := obind hf
        refine r_as_I X h29 d_M_refresh_50 ?_
        refine r_aload_n X d_M_refresh_51 rfl 0 rfl ?_
        obtain ⟨x30, h31, hf⟩ := obind hf
        refine r_ld_R (ci := 11) (k := 9) X h31 (Nat.le_of_ble_eq_true rfl) (Nat.le_of_ble_eq_true rfl) rfl rfl q713 d_M_refresh_52 ?_
        refine r_iload_n X d_M_refresh_55 rfl 1 rfl ?_
        refine r_aload_n X d_M_refresh_56 rfl 0 rfl ?_
        obtain ⟨x32, h33, hf⟩ := obind hf
        refine r_ld_R (ci := 11) (k := 16) X h33 (Nat.le_of_ble_eq_true rfl) (Nat.le_of_ble_eq_true rfl) rfl rfl q720 d_M_refresh_57 ?_
        refine r_aload_n X d_M_refresh_60 rfl 0 rfl ?_
        obtain ⟨x34, h35, hf⟩ := obind hf
        refine r_ld_R (ci := 11) (k := 6) X h35 (Nat.le_of_ble_eq_true rfl) (Nat.le_of_ble_eq_true rfl) rfl rfl q710 d_M_refresh_61 ?_
        refine r_iload_n X d_M_refresh_64 rfl 1 rfl ?_
        obtain ⟨x36, h37, hf⟩ := obind hf
        refine r_al_I X h37 d_M_refresh_65 ?_
        obtain ⟨x38, h39, hf⟩ := obind hf
        refine r_al_I X h39 d_M_refresh_66 ?_
        obtain ⟨σ40, h41, hf⟩ := obind hf
        refine r_as_I X h41 d_M_refresh_67 ?_
        refine r_iconst (v := 1) X d_M_refresh_68 (by decide) ?_
        cases hf
        refine r_widen (kc2 := rm_M_refresh.cells) (ks2 := rm_M_refresh.slots) (Nat.le_of_ble_eq_true rfl) (Nat.le_of_ble_eq_true rfl) ?_
        exact r_zret X hret hlk (by decide) d_M_refresh_69
      · have hf := (if_neg hc17).symm.trans hf
        refine r_iconst (v := 0) X d_M_refresh_30 (by decide) ?_
        cases hf
        refine r_widen (kc2 := rm_M_refresh.cells) (ks2 := rm_M_refresh.slots) (Nat.le_of_ble_eq_true rfl) (Nat.le_of_ble_eq_true rfl) ?_
        exact r_zret X hret hlk (by decide) d_M_refresh_31

def f_M_finish_152 (n : Nat)  (v0 : Option Nat) (v1 : Int32) (v2 : Int32) (v3 : Int32) (w0 : Int32) (σ : Hp) : Option (Int32 × Hp) :=
  if w0 = 0 then
  (
    if w0 = 0 ∨ w0 = 1 then some (w0, σ) else none)
  else
  (
    Option.bind (is_O σ v0 11) fun x33 =>
    pb (f_M_lay n v0 v1 v2 v3 0 σ) fun x36 σ35 =>
    if w0 = 0 ∨ w0 = 1 then some (w0, σ35) else none)
set_option maxRecDepth 100000 in
theorem b_M_finish_152 {p : Program} {l : Launch} {e : Env} {s : State} {m : MethodId} {args : Array Value} {below : List Frame} {meth : Method} {c : Code} {DD : DT} {σ0 σz : Hp} {rz : Int32} (X : CX p s m args c prog_13_method_37_code 7 (dm σ0) DD y_M_finish.cls) (hret : meth.sig.returnType = some .boolean) (hlk : meth.locks = false) (hnm : meth.name = y_M_finish.name) (n : Nat)   (v0 : Option Nat) (v1 : Int32) (v2 : Int32) (v3 : Int32) (w0 : Int32) (σ : Hp) (hf : f_M_finish_152 n  v0 v1 v2 v3 w0 σ = some (rz, σz)) : GG p l e rm_M_finish s m args below meth c 7 (dm σ0) DD (MQ below (Post DD σ0 (some (tI rz)) σz) args s rm_M_finish.cells rm_M_finish.slots (dm σ0)) 0 0 σ 152 [(0, tR v0), (1, tI v1), (2, tI v2), (3, tI v3)] [tI w0] := by
  unfold f_M_finish_152 at hf
  refine r_istore (lv' := [(0, tR v0), (1, tI v1), (2, tI v2), (3, tI v3), (6, tI w0)]) X [1, 2, 3, 4, 0] d_M_finish_152 (Nat.le_of_ble_eq_true rfl) rfl ?_
  refine r_iload X d_M_finish_154 4 rfl ?_
  refine r_if_eq (tgt := 168) X d_M_finish_156 (by decide) (fun hc30 => ?_) (fun hc30 => ?_)
  · have hf := (if_pos hc30).symm.trans hf
    refine r_iload X d_M_finish_168 4 rfl ?_
    have hz31 : w0 = 0 ∨ w0 = 1 := Classical.byContradiction fun z => by
      have hf := (if_neg z).symm.trans hf
      cases hf
    have hf := (if_pos hz31).symm.trans hf
    cases hf
    refine r_widen (kc2 := rm_M_finish.cells) (ks2 := rm_M_finish.slots) (Nat.le_of_ble_eq_true rfl) (Nat.le_of_ble_eq_true rfl) ?_
    exact r_zret X hret hlk hz31 d_M_finish_170
  · have hf := (if_neg hc30).symm.trans hf
    refine r_aload_n X d_M_finish_159 rfl 0 rfl ?_
    refine r_iload_n X d_M_finish_160 rfl 1 rfl ?_
    refine r_iload_n X d_M_finish_161 rfl 2 rfl ?_
    refine r_iload_n X d_M_finish_162 rfl 3 rfl ?_
    refine r_iconst (v := 0) X d_M_finish_163 (by decide) ?_
    obtain ⟨x33, h32, hf⟩ := obind hf
    obtain ⟨x36, σ35, h34, hf⟩ := pbind hf
    refine r_callV (st := []) X [tI v1, tI v2, tI v3, tI 0] (ci := 11) h32 (Nat.le_of_ble_eq_true rfl) q890 q892 sl22 (c_M_lay n v0 v1 v2 v3 0 h34) q893 q11 y_M_lay_ok rfl ⟨Nat.le_of_ble_eq_true rfl, Nat.le_of_ble_eq_true rfl⟩ (Nat.le_of_ble_eq_true rfl) ⟨Nat.le_of_ble_eq_true rfl, Nat.le_of_ble_eq_true rfl⟩ d_M_finish_164 ?_
    refine r_pop X d_M_finish_167 rfl ?_
    refine r_iload X d_M_finish_168 4 rfl ?_
    have hz37 : w0 = 0 ∨ w0 = 1 := Classical.byContradiction fun z => by
      have hf := (if_neg z).symm.trans hf
      cases hf
    have hf := (if_pos hz37).symm.trans hf
    cases hf
    refine r_widen (kc2 := rm_M_finish.cells) (ks2 := rm_M_finish.slots) (Nat.le_of_ble_eq_true rfl) (Nat.le_of_ble_eq_true rfl) ?_
    exact r_zret X hret hlk hz37 d_M_finish_170

def f_M_finish_137 (n : Nat)  (v0 : Option Nat) (v1 : Int32) (v2 : Int32) (v3 : Int32) (σ : Hp) : Option (Int32 × Hp) :=
  f_M_finish_152 n  v0 v1 v2 v3 0 σ
set_option maxRecDepth 100000 in
theorem b_M_finish_137 {p : Program} {l : Launch} {e : Env} {s : State} {m : MethodId} {args : Array Value} {below : List Frame} {meth : Method} {c : Code} {DD : DT} {σ0 σz : Hp} {rz : Int32} (X : CX p s m args c prog_13_method_37_code 7 (dm σ0) DD y_M_finish.cls) (hret : meth.sig.returnType = some .boolean) (hlk : meth.locks = false) (hnm : meth.name = y_M_finish.name) (n : Nat)   (v0 : Option Nat) (v1 : Int32) (v2 : Int32) (v3 : Int32) (σ : Hp) (hf : f_M_finish_137 n  v0 v1 v2 v3 σ = some (rz, σz)) : GG p l e rm_M_finish s m args below meth c 7 (dm σ0) DD (MQ below (Post DD σ0 (some (tI rz)) σz) args s rm_M_finish.cells rm_M_finish.slots (dm σ0)) 0 0 σ 137 [(0, tR v0), (1, tI v1), (2, tI v2), (3, tI v3)] [] := by
  unfold f_M_finish_137 at hf
  refine r_iconst (v := 0) X d_M_finish_137 (by decide) ?_
  refine r_goto (tgt := 152) X d_M_finish_138 (by decide) ?_
  refine r_widen (kc2 := 0) (ks2 := 0) (Nat.le_of_ble_eq_true rfl) (Nat.le_of_ble_eq_true rfl) ?_
  refine r_sub [0, 1, 2, 3] (lv' := [(0, tR v0), (1, tI v1), (2, tI v2), (3, tI v3)]) rfl ?_
  exact b_M_finish_152 X hret hlk hnm n   v0 v1 v2 v3 0 σ hf

def f_M_finish_69 (n : Nat)  (v0 : Option Nat) (v1 : Int32) (v2 : Int32) (v3 : Int32) (w0 : Int32) (σ : Hp) : Option (Int32 × Hp) :=
  Option.bind (ld_R σ v0 11 7) fun x15 =>
  Option.bind (as_I σ 0 x15 v1 0) fun σ17 =>
  Option.bind (ld_I σ17 v0 11 41) fun x19 =>
  Option.bind (st_I σ17 v0 11 41 (x19 + 1)) fun σ21 =>
  Option.bind (is_O σ21 v0 11) fun x24 =>
  pb (f_M_seen v0 v1 σ21) fun x27 σ26 =>
  if w0 = 0 then
  (
    if x27 = ((-1)) then
    (
      f_M_finish_152 n  v0 v1 v2 v3 1 σ26)
    else
    (
      f_M_finish_152 n  v0 v1 v2 v3 0 σ26))
  else
  (
    if x27 = ((-1)) then
    (
      f_M_finish_137 n  v0 v1 v2 v3 σ26)
    else
    (
      Option.bind (ld_R σ26 v0 11 8) fun x39 =>
      Option.bind (al_I σ26 0 x39 v1) fun x41 =>
      if x27 = x41 then
      (
        Option.bind (ld_R σ26 v0 11 16) fun x44 =>
        Option.bind (al_I σ26 0 x44 x27) fun x46 =>
        Option.bind (ld_R σ26 v0 11 9) fun x48 =>
        Option.bind (al_I σ26 0 x48 v1) fun x50 =>
        if x46 = x50 then
        (
          f_M_finish_152 n  v0 v1 v2 v3 1 σ26)
        else
        (
          f_M_finish_137 n  v0 v1 v2 v3 σ26))
      else
      (
        f_M_finish_137 n  v0 v1 v2 v3 σ26)))
set_option maxRecDepth 100000 in
theorem b_M_finish_69 {p : Program} {l : Launch} {e : Env} {s : State} {m : MethodId} {args : Array Value} {below : List Frame} {meth : Method} {c : Code} {DD : DT} {σ0 σz : Hp} {rz : Int32} (X : CX p s m args c prog_13_method_37_code 7 (dm σ0) DD y_M_finish.cls) (hret : meth.sig.returnType = some .boolean) (hlk : meth.locks = false) (hnm : meth.name = y_M_finish.name) (n : Nat)   (v0 : Option Nat) (v1 : Int32) (v2 : Int32) (v3 : Int32) (w0 : Int32) (σ : Hp) (hf : f_M_finish_69 n  v0 v1 v2 v3 w0 σ = some (rz, σz)) : GG p l e rm_M_finish s m args below meth c 7 (dm σ0) DD (MQ below (Post DD σ0 (some (tI rz)) σz) args s rm_M_finish.cells rm_M_finish.slots (dm σ0)) 0 0 σ 69 [(0, tR v0), (1, tI v1), (2, tI v2), (3, tI v3)] [tI w0] := by
  unfold f_M_finish_69 at hf
  refine r_istore (lv' := [(0, tR v0), (1, tI v1), (2, tI v2), (3, tI v3), (4, tI w0)]) X [1, 2, 3, 4, 0] d_M_finish_69 (Nat.le_of_ble_eq_true rfl) rfl ?_
  refine r_aload_n X d_M_finish_71 rfl 0 rfl ?_
  obtain ⟨x15, h16, hf⟩ := obind hf
  refine r_ld_R (ci := 11) (k := 7) X h16 (Nat.le_of_ble_eq_true rfl) (Nat.le_of_ble_eq_true rfl) rfl rfl q711 d_M_finish_72 ?_
  refine r_iload_n X d_M_finish_75 rfl 1 rfl ?_
  refine r_iconst (v := 0) X d_M_finish_76 (by decide) ?_
  obtain ⟨σ17, h18, hf⟩ := obind hf
  refine r_as_I X h18 d_M_finish_77 ?_
  refine r_aload_n X d_M_finish_78 rfl 0 rfl ?_
  refine r_dup X d_M_finish_79 rfl ?_
  obtain ⟨x19, h20, hf⟩ := obind hf
  refine r_ld_I (ci := 11) (k := 41) X h20 (Nat.le_of_ble_eq_true rfl) (Nat.le_of_ble_eq_true rfl) (Or.inl rfl) rfl q745 d_M_finish_80 ?_
  refine r_iconst (v := 1) X d_M_finish_83 (by decide) ?_
  refine r_iadd X d_M_finish_84 ?_
  obtain ⟨σ21, h22, hf⟩ := obind hf
  refine r_st_I (ci := 11) (k := 41) X h22 (Nat.le_of_ble_eq_true rfl) (Nat.le_of_ble_eq_true rfl) rfl rfl rfl q745 d_M_finish_85 ?_
  refine r_aload_n X d_M_finish_88 rfl 0 rfl ?_
  refine r_iload_n X d_M_finish_89 rfl 1 rfl ?_
  obtain ⟨x24, h23, hf⟩ := obind hf
  obtain ⟨x27, σ26, h25, hf⟩ := pbind hf
  refine r_callV (st := []) X [tI v1] (ci := 11) h23 (Nat.le_of_ble_eq_true rfl) q869 q871 sl19 (c_M_seen v0 v1 h25) q872 q11 y_M_seen_ok rfl ⟨Nat.le_of_ble_eq_true rfl, Nat.le_of_ble_eq_true rfl⟩ (Nat.le_of_ble_eq_true rfl) ⟨Nat.le_of_ble_eq_true rfl, Nat.le_of_ble_eq_true rfl⟩ d_M_finish_90 ?_
  refine r_istore (lv' := [(0, tR v0), (1, tI v1), (2, tI v2), (3, tI v3), (4, tI w0), (5, tI x27)]) X [1, 2, 3, 4, 5, 0] d_M_finish_93 (Nat.le_of_ble_eq_true rfl) rfl ?_
  refine r_iload X d_M_finish_95 4 rfl ?_
  refine r_if_eq (tgt := 141) X d_M_finish_97 (by decide) (fun hc28 => ?_) (fun hc28 => ?_)
  · have hf := (if_pos hc28).symm.trans hf
    refine r_iload X d_M_finish_141 5 rfl ?_
    refine r_iconst (v := -1) X d_M_finish_143 (by decide) ?_
    refine r_icmp_ne (tgt := 151) X d_M_finish_144 (by decide) (fun hc29 => ?_) (fun hc29 => ?_)
    · have hf := (if_neg hc29).symm.trans hf
      refine r_iconst (v := 0) X d_M_finish_151 (by decide) ?_
      refine r_widen (kc2 := 0) (ks2 := 0) (Nat.le_of_ble_eq_true rfl) (Nat.le_of_ble_eq_true rfl) ?_
      refine r_sub [0, 1, 2, 3] (lv' := [(0, tR v0), (1, tI v1), (2, tI v2), (3, tI v3)]) rfl ?_
      exact b_M_finish_152 X hret hlk hnm n   v0 v1 v2 v3 0 σ26 hf
    · have hf := (if_pos hc29).symm.trans hf
      refine r_iconst (v := 1) X d_M_finish_147 (by decide) ?_
      refine r_goto (tgt := 152) X d_M_finish_148 (by decide) ?_
      refine r_widen (kc2 := 0) (ks2 := 0) (Nat.le_of_ble_eq_true rfl) (Nat.le_of_ble_eq_true rfl) ?_
      refine r_sub [0, 1, 2, 3] (lv' := [(0, tR v0), (1, tI v1), (2, tI v2), (3, tI v3)]) rfl ?_
      exact b_M_finish_152 X hret hlk hnm n   v0 v1 v2 v3 1 σ26 hf
  · have hf := (if_neg hc28).symm.trans hf
    refine r_iload X d_M_finish_100 5 rfl ?_
    refine r_iconst (v := -1) X d_M_finish_102 (by decide) ?_
    refine r_icmp_eq (tgt := 137) X d_M_finish_103 (by decide) (fun hc38 => ?_) (fun hc38 => ?_)
    · have hf := (if_pos hc38).symm.trans hf
      refine r_widen (kc2 := 0) (ks2 := 0) (Nat.le_of_ble_eq_true rfl) (Nat.le_of_ble_eq_true rfl) ?_
      refine r_sub [0, 1, 2, 3] (lv' := [(0, tR v0), (1, tI v1), (2, tI v2), (3, tI v3)]) rfl ?_
      exact b_M_finish_137 X hret hlk hnm n   v0 v1 v2 v3 σ26 hf
    · have hf := (if_neg hc38).symm.trans hf
      refine r_iload X d_M_finish_106 5 rfl ?_
      refine r_aload_n X d_M_finish_108 rfl 0 rfl ?_
      obtain ⟨x39, h40, hf⟩ := obind hf
      refine r_ld_R (ci := 11) (k := 8) X h40 (Nat.le_of_ble_eq_true rfl) (Nat.le_of_ble_eq_true rfl) rfl rfl q712 d_M_finish_109 ?_
      refine r_iload_n X d_M_finish_112 rfl 1 rfl ?_
      obtain ⟨x41, h42, hf⟩ := obind hf
      refine r_al_I X h42 d_M_finish_113 ?_
      refine r_icmp_ne (tgt := 137) X d_M_finish_114 (by decide) (fun hc43 => ?_) (fun hc43 => ?_)
      · have hf := (if_neg hc43).symm.trans hf
        refine r_widen (kc2 := 0) (ks2 := 0) (Nat.le_of_ble_eq_true rfl) (Nat.le_of_ble_eq_true rfl) ?_
        refine r_sub [0, 1, 2, 3] (lv' := [(0, tR v0), (1, tI v1), (2, tI v2), (3, tI v3)]) rfl ?_
        exact b_M_finish_137 X hret hlk hnm n   v0 v1 v2 v3 σ26 hf
      · have hf := (if_pos hc43).symm.trans hf
        refine r_aload_n X d_M_finish_117 rfl 0 rfl ?_
        obtain ⟨x44, h45, hf⟩ := obind hf
        refine r_ld_R (ci := 11) (k := 16) X h45 (Nat.le_of_ble_eq_true rfl) (Nat.le_of_ble_eq_true rfl) rfl rfl q720 d_M_finish_118 ?_
        refine r_iload X d_M_finish_121 5 rfl ?_
        obtain ⟨x46, h47, hf⟩ := obind hf
        refine r_al_I X h47 d_M_finish_123 ?_
        refine r_aload_n X d_M_finish_124 rfl 0 rfl ?_
        obtain ⟨x48, h49, hf⟩ := obind hf
        refine r_ld_R (ci := 11) (k := 9) X h49 (Nat.le_of_ble_eq_true rfl) (Nat.le_of_ble_eq_true rfl) rfl rfl q713 d_M_finish_125 ?_
        refine r_iload_n X d_M_finish_128 rfl 1 rfl ?_
        obtain ⟨x50, h51, hf⟩ := obind hf
        refine r_al_I X h51 d_M_finish_129 ?_
        refine r_icmp_ne (tgt := 137) X d_M_finish_130 (by decide) (fun hc52 => ?_) (fun hc52 => ?_)
        · have hf := (if_neg hc52).symm.trans hf
          refine r_widen (kc2 := 0) (ks2 := 0) (Nat.le_of_ble_eq_true rfl) (Nat.le_of_ble_eq_true rfl) ?_
          refine r_sub [0, 1, 2, 3] (lv' := [(0, tR v0), (1, tI v1), (2, tI v2), (3, tI v3)]) rfl ?_
          exact b_M_finish_137 X hret hlk hnm n   v0 v1 v2 v3 σ26 hf
        · have hf := (if_pos hc52).symm.trans hf
          refine r_iconst (v := 1) X d_M_finish_133 (by decide) ?_
          refine r_goto (tgt := 152) X d_M_finish_134 (by decide) ?_
          refine r_widen (kc2 := 0) (ks2 := 0) (Nat.le_of_ble_eq_true rfl) (Nat.le_of_ble_eq_true rfl) ?_
          refine r_sub [0, 1, 2, 3] (lv' := [(0, tR v0), (1, tI v1), (2, tI v2), (3, tI v3)]) rfl ?_
          exact b_M_finish_152 X hret hlk hnm n   v0 v1 v2 v3 1 σ26 hf

def f_M_finish_42 (n : Nat)  (v0 : Option Nat) (v1 : Int32) (v2 : Int32) (v3 : Int32) (w0 : Int32) (w1 : Option Nat) (σ : Hp) : Option (Int32 × Hp) :=
  Option.bind (st_I σ w1 11 0 w0) fun σ5 =>
  Option.bind (ld_I σ5 v0 11 0) fun x7 =>
  if x7 ≤ 0 then
  (
    Option.bind (ld_R σ5 v0 11 7) fun x10 =>
    Option.bind (al_I σ5 0 x10 v1) fun x12 =>
    if x12 = 2 then
    (
      f_M_finish_69 n  v0 v1 v2 v3 1 σ5)
    else
    (
      f_M_finish_69 n  v0 v1 v2 v3 0 σ5))
  else
  (
    some (0, σ5))
set_option maxRecDepth 100000 in
theorem b_M_finish_42 {p : Program} {l : Launch} {e : Env} {s : State} {m : MethodId} {args : Array Value} {below : List Frame} {meth : Method} {c : Code} {DD : DT} {σ0 σz : Hp} {rz : Int32} (X : CX p s m args c prog_13_method_37_code 7 (dm σ0) DD y_M_finish.cls) (hret : meth.sig.returnType = some .boolean) (hlk : meth.locks = false) (hnm : meth.name = y_M_finish.name) (n : Nat)   (v0 : Option Nat) (v1 : Int32) (v2 : Int32) (v3 : Int32) (w0 : Int32) (w1 : Option Nat) (σ : Hp) (hf : f_M_finish_42 n  v0 v1 v2 v3 w0 w1 σ = some (rz, σz)) : GG p l e rm_M_finish s m args below meth c 7 (dm σ0) DD (MQ below (Post DD σ0 (some (tI rz)) σz) args s rm_M_finish.cells rm_M_finish.slots (dm σ0)) 0 0 σ 42 [(0, tR v0), (1, tI v1), (2, tI v2), (3, tI v3)] [tI w0, tR w1] := by
  unfold f_M_finish_42 at hf
  obtain ⟨σ5, h6, hf⟩ := obind hf
  refine r_st_I (ci := 11) (k := 0) X h6 (Nat.le_of_ble_eq_true rfl) (Nat.le_of_ble_eq_true rfl) rfl rfl rfl q704 d_M_finish_42 ?_
  refine r_aload_n X d_M_finish_45 rfl 0 rfl ?_
  obtain ⟨x7, h8, hf⟩ := obind hf
  refine r_ld_I (ci := 11) (k := 0) X h8 (Nat.le_of_ble_eq_true rfl) (Nat.le_of_ble_eq_true rfl) (Or.inl rfl) rfl q704 d_M_finish_46 ?_
  refine r_if_le (tgt := 54) X d_M_finish_49 (by decide) (fun hc9 => ?_) (fun hc9 => ?_)
  · have hf := (if_pos hc9).symm.trans hf
    refine r_aload_n X d_M_finish_54 rfl 0 rfl ?_
    obtain ⟨x10, h11, hf⟩ := obind hf
    refine r_ld_R (ci := 11) (k := 7) X h11 (Nat.le_of_ble_eq_true rfl) (Nat.le_of_ble_eq_true rfl) rfl rfl q711 d_M_finish_55 ?_
    refine r_iload_n X d_M_finish_58 rfl 1 rfl ?_
    obtain ⟨x12, h13, hf⟩ := obind hf
    refine r_al_I X h13 d_M_finish_59 ?_
    refine r_iconst (v := 2) X d_M_finish_60 (by decide) ?_
    refine r_icmp_ne (tgt := 68) X d_M_finish_61 (by decide) (fun hc14 => ?_) (fun hc14 => ?_)
    · have hf := (if_neg hc14).symm.trans hf
      refine r_iconst (v := 0) X d_M_finish_68 (by decide) ?_
      refine r_widen (kc2 := 0) (ks2 := 0) (Nat.le_of_ble_eq_true rfl) (Nat.le_of_ble_eq_true rfl) ?_
      refine r_sub [0, 1, 2, 3] (lv' := [(0, tR v0), (1, tI v1), (2, tI v2), (3, tI v3)]) rfl ?_
      exact b_M_finish_69 X hret hlk hnm n   v0 v1 v2 v3 0 σ5 hf
    · have hf := (if_pos hc14).symm.trans hf
      refine r_iconst (v := 1) X d_M_finish_64 (by decide) ?_
      refine r_goto (tgt := 69) X d_M_finish_65 (by decide) ?_
      refine r_widen (kc2 := 0) (ks2 := 0) (Nat.le_of_ble_eq_true rfl) (Nat.le_of_ble_eq_true rfl) ?_
      refine r_sub [0, 1, 2, 3] (lv' := [(0, tR v0), (1, tI v1), (2, tI v2), (3, tI v3)]) rfl ?_
      exact b_M_finish_69 X hret hlk hnm n   v0 v1 v2 v3 1 σ5 hf
  · have hf := (if_neg hc9).symm.trans hf
    refine r_iconst (v := 0) X d_M_finish_52 (by decide) ?_
    cases hf
    refine r_widen (kc2 := rm_M_finish.cells) (ks2 := rm_M_finish.slots) (Nat.le_of_ble_eq_true rfl) (Nat.le_of_ble_eq_true rfl) ?_
    exact r_zret X hret hlk (by decide) d_M_finish_53

def f_M_finish_17 (n : Nat)  (v0 : Option Nat) (v1 : Int32) (v2 : Int32) (v3 : Int32) (w0 : Option Nat) (σ : Hp) : Option (Int32 × Hp) :=
  f_M_finish_42 n  v0 v1 v2 v3 1 w0 σ
set_option maxRecDepth 100000 in
theorem b_M_finish_17 {p : Program} {l : Launch} {e : Env} {s : State} {m : MethodId} {args : Array Value} {below : List Frame} {meth : Method} {c : Code} {DD : DT} {σ0 σz : Hp} {rz : Int32} (X : CX p s m args c prog_13_method_37_code 7 (dm σ0) DD y_M_finish.cls) (hret : meth.sig.returnType = some .boolean) (hlk : meth.locks = false) (hnm : meth.name = y_M_finish.name) (n : Nat)   (v0 : Option Nat) (v1 : Int32) (v2 : Int32) (v3 : Int32) (w0 : Option Nat) (σ : Hp) (hf : f_M_finish_17 n  v0 v1 v2 v3 w0 σ = some (rz, σz)) : GG p l e rm_M_finish s m args below meth c 7 (dm σ0) DD (MQ below (Post DD σ0 (some (tI rz)) σz) args s rm_M_finish.cells rm_M_finish.slots (dm σ0)) 0 0 σ 17 [(0, tR v0), (1, tI v1), (2, tI v2), (3, tI v3)] [tR w0] := by
  unfold f_M_finish_17 at hf
  refine r_iconst (v := 1) X d_M_finish_17 (by decide) ?_
  refine r_goto (tgt := 42) X d_M_finish_18 (by decide) ?_
  refine r_widen (kc2 := 0) (ks2 := 0) (Nat.le_of_ble_eq_true rfl) (Nat.le_of_ble_eq_true rfl) ?_
  refine r_sub [0, 1, 2, 3] (lv' := [(0, tR v0), (1, tI v1), (2, tI v2), (3, tI v3)]) rfl ?_
  exact b_M_finish_42 X hret hlk hnm n   v0 v1 v2 v3 1 w0 σ hf

def f_M_finish_37 (n : Nat)  (v0 : Option Nat) (v1 : Int32) (v2 : Int32) (v3 : Int32) (w0 : Option Nat) (σ : Hp) : Option (Int32 × Hp) :=
  f_M_finish_42 n  v0 v1 v2 v3 2 w0 σ
set_option maxRecDepth 100000 in
theorem b_M_finish_37 {p : Program} {l : Launch} {e : Env} {s : State} {m : MethodId} {args : Array Value} {below : List Frame} {meth : Method} {c : Code} {DD : DT} {σ0 σz : Hp} {rz : Int32} (X : CX p s m args c prog_13_method_37_code 7 (dm σ0) DD y_M_finish.cls) (hret : meth.sig.returnType = some .boolean) (hlk : meth.locks = false) (hnm : meth.name = y_M_finish.name) (n : Nat)   (v0 : Option Nat) (v1 : Int32) (v2 : Int32) (v3 : Int32) (w0 : Option Nat) (σ : Hp) (hf : f_M_finish_37 n  v0 v1 v2 v3 w0 σ = some (rz, σz)) : GG p l e rm_M_finish s m args below meth c 7 (dm σ0) DD (MQ below (Post DD σ0 (some (tI rz)) σz) args s rm_M_finish.cells rm_M_finish.slots (dm σ0)) 0 0 σ 37 [(0, tR v0), (1, tI v1), (2, tI v2), (3, tI v3)] [tR w0] := by
  unfold f_M_finish_37 at hf
  refine r_iconst (v := 2) X d_M_finish_37 (by decide) ?_
  refine r_goto (tgt := 42) X d_M_finish_38 (by decide) ?_
  refine r_widen (kc2 := 0) (ks2 := 0) (Nat.le_of_ble_eq_true rfl) (Nat.le_of_ble_eq_true rfl) ?_
  refine r_sub [0, 1, 2, 3] (lv' := [(0, tR v0), (1, tI v1), (2, tI v2), (3, tI v3)]) rfl ?_
  exact b_M_finish_42 X hret hlk hnm n   v0 v1 v2 v3 2 w0 σ hf

def f_M_finish (n : Nat) (v0 : Option Nat) (v1 : Int32) (v2 : Int32) (v3 : Int32) (σ : Hp) : Option (Int32 × Hp) :=
  pb (f_M_isKey v1 σ) fun x3 σ2 =>
  if x3 = 0 then
  (
    f_M_finish_17 n  v0 v1 v2 v3 v0 σ2)
  else
  (
    Option.bind (ld_R σ2 v0 11 7) fun x53 =>
    Option.bind (al_I σ2 0 x53 v1) fun x55 =>
    if x55 = 0 then
    (
      f_M_finish_17 n  v0 v1 v2 v3 v0 σ2)
    else
    (
      if v2 < 0 then
      (
        f_M_finish_37 n  v0 v1 v2 v3 v0 σ2)
      else
      (
        if v3 < 1 then
        (
          f_M_finish_37 n  v0 v1 v2 v3 v0 σ2)
        else
        (
          if v3 ≤ 1000 then
          (
            f_M_finish_42 n  v0 v1 v2 v3 0 v0 σ2)
          else
          (
            f_M_finish_37 n  v0 v1 v2 v3 v0 σ2)))))
set_option maxRecDepth 100000 in
theorem c_M_finish {l : Launch} {DD : DT} (n : Nat) (v0 : Option Nat) (v1 : Int32) (v2 : Int32) (v3 : Int32) {σ0 σz : Hp} {rz : Int32} (hf : f_M_finish n v0 v1 v2 v3 σ0 = some (rz, σz)) : CT l DD y_M_finish prog_13_method_37_code 7 (some .boolean) rm_M_finish [tR v0, tI v1, tI v2, tI v3] σ0 (some (tI rz)) σz := by
  refine r_met (by decide) (Nat.le_of_ble_eq_true rfl) ?_
  intro p e s m args below meth c X hret hlk hnm
  unfold f_M_finish at hf
  refine r_aload_n X d_M_finish_0 rfl 0 rfl ?_
  refine r_iload_n X d_M_finish_1 rfl 1 rfl ?_
  obtain ⟨x3, σ2, h1, hf⟩ := pbind hf
  refine r_callS (st := [tR v0]) X [tI v1] q862 q863 (c_M_isKey v1 h1) q864 q11 y_M_isKey_ok rfl ⟨Nat.le_of_ble_eq_true rfl, Nat.le_of_ble_eq_true rfl⟩ (Nat.le_of_ble_eq_true rfl) ⟨Nat.le_of_ble_eq_true rfl, Nat.le_of_ble_eq_true rfl⟩ d_M_finish_2 ?_
  refine r_if_eq (tgt := 17) X d_M_finish_5 (by decide) (fun hc4 => ?_) (fun hc4 => ?_)
  · have hf := (if_pos hc4).symm.trans hf
    refine r_widen (kc2 := 0) (ks2 := 0) (Nat.le_of_ble_eq_true rfl) (Nat.le_of_ble_eq_true rfl) ?_
    refine r_sub [0, 1, 2, 3] (lv' := [(0, tR v0), (1, tI v1), (2, tI v2), (3, tI v3)]) rfl ?_
    exact b_M_finish_17 X hret hlk hnm n   v0 v1 v2 v3 v0 σ2 hf
  · have hf := (if_neg hc4).symm.trans hf
    refine r_aload_n X d_M_finish_8 rfl 0 rfl ?_
    obtain ⟨x53, h54, hf⟩ := obind hf
    refine r_ld_R (ci := 11) (k := 7) X h54 (Nat.le_of_ble_eq_true rfl) (Nat.le_of_ble_eq_true rfl) rfl rfl q711 d_M_finish_9 ?_
    refine r_iload_n X d_M_finish_12 rfl 1 rfl ?_
    obtain ⟨x55, h56, hf⟩ := obind hf
    refine r_al_I X h56 d_M_finish_13 ?_
    refine r_if_ne (tgt := 21) X d_M_finish_14 (by decide) (fun hc57 => ?_) (fun hc57 => ?_)
    · have hf := (if_neg hc57).symm.trans hf
      refine r_iload_n X d_M_finish_21 rfl 2 rfl ?_
      refine r_if_lt (tgt := 37) X d_M_finish_22 (by decide) (fun hc58 => ?_) (fun hc58 => ?_)
      · have hf := (if_pos hc58).symm.trans hf
        refine r_widen (kc2 := 0) (ks2 := 0) (Nat.le_of_ble_eq_true rfl) (Nat.le_of_ble_eq_true rfl) ?_
        refine r_sub [0, 1, 2, 3] (lv' := [(0, tR v0), (1, tI v1), (2, tI v2), (3, tI v3)]) rfl ?_
        exact b_M_finish_37 X hret hlk hnm n   v0 v1 v2 v3 v0 σ2 hf
      · have hf := (if_neg hc58).symm.trans hf
        refine r_iload_n X d_M_finish_25 rfl 3 rfl ?_
        refine r_iconst (v := 1) X d_M_finish_26 (by decide) ?_
        refine r_icmp_lt (tgt := 37) X d_M_finish_27 (by decide) (fun hc59 => ?_) (fun hc59 => ?_)
        · have hf := (if_pos hc59).symm.trans hf
          refine r_widen (kc2 := 0) (ks2 := 0) (Nat.le_of_ble_eq_true rfl) (Nat.le_of_ble_eq_true rfl) ?_
          refine r_sub [0, 1, 2, 3] (lv' := [(0, tR v0), (1, tI v1), (2, tI v2), (3, tI v3)]) rfl ?_
          exact b_M_finish_37 X hret hlk hnm n   v0 v1 v2 v3 v0 σ2 hf
        · have hf := (if_neg hc59).symm.trans hf
          refine r_iload_n X d_M_finish_30 rfl 3 rfl ?_
          refine r_sipush (v := 1000) X d_M_finish_31 (by decide) ?_
          refine r_icmp_le (tgt := 41) X d_M_finish_34 (by decide) (fun hc60 => ?_) (fun hc60 => ?_)
          · have hf := (if_pos hc60).symm.trans hf
            refine r_iconst (v := 0) X d_M_finish_41 (by decide) ?_
            refine r_widen (kc2 := 0) (ks2 := 0) (Nat.le_of_ble_eq_true rfl) (Nat.le_of_ble_eq_true rfl) ?_
            refine r_sub [0, 1, 2, 3] (lv' := [(0, tR v0), (1, tI v1), (2, tI v2), (3, tI v3)]) rfl ?_
            exact b_M_finish_42 X hret hlk hnm n   v0 v1 v2 v3 0 v0 σ2 hf
          · have hf := (if_neg hc60).symm.trans hf
            refine r_widen (kc2 := 0) (ks2 := 0) (Nat.le_of_ble_eq_true rfl) (Nat.le_of_ble_eq_true rfl) ?_
            refine r_sub [0, 1, 2, 3] (lv' := [(0, tR v0), (1, tI v1), (2, tI v2), (3, tI v3)]) rfl ?_
            exact b_M_finish_37 X hret hlk hnm n   v0 v1 v2 v3 v0 σ2 hf
    · have hf := (if_pos hc57).symm.trans hf
      refine r_widen (kc2 := 0) (ks2 := 0) (Nat.le_of_ble_eq_true rfl) (Nat.le_of_ble_eq_true rfl) ?_
      refine r_sub [0, 1, 2, 3] (lv' := [(0, tR v0), (1, tI v1), (2, tI v2), (3, tI v3)]) rfl ?_
      exact b_M_finish_17 X hret hlk hnm n   v0 v1 v2 v3 v0 σ2 hf

def f_M_fail_22  (v0 : Option Nat) (v1 : Int32) (w0 : Int32) (w1 : Option Nat) (σ : Hp) : Option Hp :=
  Option.bind (st_I σ w1 11 0 w0) fun σ5 =>
  Option.bind (ld_I σ5 v0 11 0) fun x7 =>
  if x7 ≤ 0 then
  (
    Option.bind (ld_R σ5 v0 11 7) fun x10 =>
    Option.bind (as_I σ5 0 x10 v1 0) fun σ12 =>
    Option.bind (ld_I σ12 v0 11 42) fun x14 =>
    Option.bind (st_I σ12 v0 11 42 (x14 + 1)) fun σ16 =>
    some σ16)
  else
  (
    some σ5)
set_option maxRecDepth 100000 in
theorem b_M_fail_22 {p : Program} {l : Launch} {e : Env} {s : State} {m : MethodId} {args : Array Value} {below : List Frame} {meth : Method} {c : Code} {DD : DT} {σ0 σz : Hp} (X : CX p s m args c prog_13_method_38_code 2 (dm σ0) DD y_M_fail.cls) (hret : meth.sig.returnType = none) (hlk : meth.locks = false) (hnm : meth.name = y_M_fail.name)   (v0 : Option Nat) (v1 : Int32) (w0 : Int32) (w1 : Option Nat) (σ : Hp) (hf : f_M_fail_22  v0 v1 w0 w1 σ = some σz) : GG p l e rm_M_fail s m args below meth c 2 (dm σ0) DD (MQ below (Post DD σ0 none σz) args s rm_M_fail.cells rm_M_fail.slots (dm σ0)) 0 0 σ 22 [(0, tR v0), (1, tI v1)] [tI w0, tR w1] := by
  unfold f_M_fail_22 at hf
  obtain ⟨σ5, h6, hf⟩ := obind hf
  refine r_st_I (ci := 11) (k := 0) X h6 (Nat.le_of_ble_eq_true rfl) (Nat.le_of_ble_eq_true rfl) rfl rfl rfl q704 d_M_fail_22 ?_
  refine r_aload_n X d_M_fail_25 rfl 0 rfl ?_
  obtain ⟨x7, h8, hf⟩ := obind hf
  refine r_ld_I (ci := 11) (k := 0) X h8 (Nat.le_of_ble_eq_true rfl) (Nat.le_of_ble_eq_true rfl) (Or.inl rfl) rfl q704 d_M_fail_26 ?_
  refine r_if_le (tgt := 33) X d_M_fail_29 (by decide) (fun hc9 => ?_) (fun hc9 => ?_)
  · have hf := (if_pos hc9).symm.trans hf
    refine r_aload_n X d_M_fail_33 rfl 0 rfl ?_
    obtain ⟨x10, h11, hf⟩ := obind hf
    refine r_ld_R (ci := 11) (k := 7) X h11 (Nat.le_of_ble_eq_true rfl) (Nat.le_of_ble_eq_true rfl) rfl rfl q711 d_M_fail_34 ?_
    refine r_iload_n X d_M_fail_37 rfl 1 rfl ?_
    refine r_iconst (v := 0) X d_M_fail_38 (by decide) ?_
    obtain ⟨σ12, h13, hf⟩ := obind hf
    refine r_as_I X h13 d_M_fail_39 ?_
    refine r_aload_n X d_M_fail_40 rfl 0 rfl ?_
    refine r_dup X d_M_fail_41 rfl ?_
    obtain ⟨x14, h15, hf⟩ := obind hf
    refine r_ld_I (ci := 11) (k := 42) X h15 (Nat.le_of_ble_eq_true rfl) (Nat.le_of_ble_eq_true rfl) (Or.inl rfl) rfl q746 d_M_fail_42 ?_
    refine r_iconst (v := 1) X d_M_fail_45 (by decide) ?_
    refine r_iadd X d_M_fail_46 ?_
    obtain ⟨σ16, h17, hf⟩ := obind hf
    refine r_st_I (ci := 11) (k := 42) X h17 (Nat.le_of_ble_eq_true rfl) (Nat.le_of_ble_eq_true rfl) rfl rfl rfl q746 d_M_fail_47 ?_
    cases hf
    refine r_widen (kc2 := rm_M_fail.cells) (ks2 := rm_M_fail.slots) (Nat.le_of_ble_eq_true rfl) (Nat.le_of_ble_eq_true rfl) ?_
    exact r_vret X hret hlk d_M_fail_50
  · have hf := (if_neg hc9).symm.trans hf
    cases hf
    refine r_widen (kc2 := rm_M_fail.cells) (ks2 := rm_M_fail.slots) (Nat.le_of_ble_eq_true rfl) (Nat.le_of_ble_eq_true rfl) ?_
    exact r_vret X hret hlk d_M_fail_32

def f_M_fail_17  (v0 : Option Nat) (v1 : Int32) (w0 : Option Nat) (σ : Hp) : Option Hp :=
  f_M_fail_22  v0 v1 1 w0 σ
set_option maxRecDepth 100000 in
theorem b_M_fail_17 {p : Program} {l : Launch} {e : Env} {s : State} {m : MethodId} {args : Array Value} {below : List Frame} {meth : Method} {c : Code} {DD : DT} {σ0 σz : Hp} (X : CX p s m args c prog_13_method_38_code 2 (dm σ0) DD y_M_fail.cls) (hret : meth.sig.returnType = none) (hlk : meth.locks = false) (hnm : meth.name = y_M_fail.name)   (v0 : Option Nat) (v1 : Int32) (w0 : Option Nat) (σ : Hp) (hf : f_M_fail_17  v0 v1 w0 σ = some σz) : GG p l e rm_M_fail s m args below meth c 2 (dm σ0) DD (MQ below (Post DD σ0 none σz) args s rm_M_fail.cells rm_M_fail.slots (dm σ0)) 0 0 σ 17 [(0, tR v0), (1, tI v1)] [tR w0] := by
  unfold f_M_fail_17 at hf
  refine r_iconst (v := 1) X d_M_fail_17 (by decide) ?_
  refine r_goto (tgt := 22) X d_M_fail_18 (by decide) ?_
  refine r_widen (kc2 := 0) (ks2 := 0) (Nat.le_of_ble_eq_true rfl) (Nat.le_of_ble_eq_true rfl) ?_
  refine r_sub [0, 1] (lv' := [(0, tR v0), (1, tI v1)]) rfl ?_
  exact b_M_fail_22 X hret hlk hnm   v0 v1 1 w0 σ hf

def f_M_fail (v0 : Option Nat) (v1 : Int32) (σ : Hp) : Option Hp :=
  pb (f_M_isKey v1 σ) fun x3 σ2 =>
  if x3 = 0 then
  (
    f_M_fail_17  v0 v1 v0 σ2)
  else
  (
    Option.bind (ld_R σ2 v0 11 7) fun x18 =>
    Option.bind (al_I σ2 0 x18 v1) fun x20 =>
    if x20 = 0 then
    (
      f_M_fail_17  v0 v1 v0 σ2)
    else
    (
      f_M_fail_22  v0 v1 0 v0 σ2))
set_option maxRecDepth 100000 in
theorem c_M_fail {l : Launch} {DD : DT} (v0 : Option Nat) (v1 : Int32) {σ0 σz : Hp} (hf : f_M_fail v0 v1 σ0 = some σz) : CT l DD y_M_fail prog_13_method_38_code 2 none rm_M_fail [tR v0, tI v1] σ0 none σz := by
  refine r_met (by decide) (Nat.le_of_ble_eq_true rfl) ?_
  intro p e s m args below meth c X hret hlk hnm
  unfold f_M_fail at hf
  refine r_aload_n X d_M_fail_0 rfl 0 rfl ?_
  refine r_iload_n X d_M_fail_1 rfl 1 rfl ?_
  obtain ⟨x3, σ2, h1, hf⟩ := pbind hf
  refine r_callS (st := [tR v0]) X [tI v1] q862 q863 (c_M_isKey v1 h1) q864 q11 y_M_isKey_ok rfl ⟨Nat.le_of_ble_eq_true rfl, Nat.le_of_ble_eq_true rfl⟩ (Nat.le_of_ble_eq_true rfl) ⟨Nat.le_of_ble_eq_true rfl, Nat.le_of_ble_eq_true rfl⟩ d_M_fail_2 ?_
  refine r_if_eq (tgt := 17) X d_M_fail_5 (by decide) (fun hc4 => ?_) (fun hc4 => ?_)
  · have hf := (if_pos hc4).symm.trans hf
    refine r_widen (kc2 := 0) (ks2 := 0) (Nat.le_of_ble_eq_true rfl) (Nat.le_of_ble_eq_true rfl) ?_
    refine r_sub [0, 1] (lv' := [(0, tR v0), (1, tI v1)]) rfl ?_
    exact b_M_fail_17 X hret hlk hnm   v0 v1 v0 σ2 hf
  · have hf := (if_neg hc4).symm.trans hf
    refine r_aload_n X d_M_fail_8 rfl 0 rfl ?_
    obtain ⟨x18, h19, hf⟩ := obind hf
    refine r_ld_R (ci := 11) (k := 7) X h19 (Nat.le_of_ble_eq_true rfl) (Nat.le_of_ble_eq_true rfl) rfl rfl q711 d_M_fail_9 ?_
    refine r_iload_n X d_M_fail_12 rfl 1 rfl ?_
    obtain ⟨x20, h21, hf⟩ := obind hf
    refine r_al_I X h21 d_M_fail_13 ?_
    refine r_if_ne (tgt := 21) X d_M_fail_14 (by decide) (fun hc22 => ?_) (fun hc22 => ?_)
    · have hf := (if_neg hc22).symm.trans hf
      refine r_iconst (v := 0) X d_M_fail_21 (by decide) ?_
      refine r_widen (kc2 := 0) (ks2 := 0) (Nat.le_of_ble_eq_true rfl) (Nat.le_of_ble_eq_true rfl) ?_
      refine r_sub [0, 1] (lv' := [(0, tR v0), (1, tI v1)]) rfl ?_
      exact b_M_fail_22 X hret hlk hnm   v0 v1 0 v0 σ2 hf
    · have hf := (if_pos hc22).symm.trans hf
      refine r_widen (kc2 := 0) (ks2 := 0) (Nat.le_of_ble_eq_true rfl) (Nat.le_of_ble_eq_true rfl) ?_
      refine r_sub [0, 1] (lv' := [(0, tR v0), (1, tI v1)]) rfl ?_
      exact b_M_fail_17 X hret hlk hnm   v0 v1 v0 σ2 hf

def f_M_advance (v0 : Option Nat) (v1 : Int32) (σ : Hp) : Option (Int64 × Hp) :=
  Option.bind (st_I σ v0 11 0 0) fun σ1 =>
  if v1 < 0 then
  (
    some ((-1), σ1))
  else
  (
    Option.bind (ld_L σ1 v0 11 5) fun x4 =>
    if (lg_cmp (x4 + (Int32.toInt64 v1)) 1099511627776) ≤ 0 then
    (
      Option.bind (ld_L σ1 v0 11 5) fun x7 =>
      Option.bind (st_L σ1 v0 11 5 (x7 + (Int32.toInt64 v1))) fun σ9 =>
      Option.bind (ld_L σ9 v0 11 5) fun x11 =>
      some (x11, σ9))
    else
    (
      some ((-1), σ1)))
set_option maxRecDepth 100000 in
theorem c_M_advance {l : Launch} {DD : DT} (v0 : Option Nat) (v1 : Int32) {σ0 σz : Hp} {rz : Int64} (hf : f_M_advance v0 v1 σ0 = some (rz, σz)) : CT l DD y_M_advance prog_13_method_39_code 2 (some .long) rm_M_advance [tR v0, tI v1] σ0 (some (tL rz)) σz := by
  refine r_met (by decide) (Nat.le_of_ble_eq_true rfl) ?_
  intro p e s m args below meth c X hret hlk hnm
  unfold f_M_advance at hf
  refine r_aload_n X d_M_advance_0 rfl 0 rfl ?_
  refine r_iconst (v := 0) X d_M_advance_1 (by decide) ?_
  obtain ⟨σ1, h2, hf⟩ := obind hf
  refine r_st_I (ci := 11) (k := 0) X h2 (Nat.le_of_ble_eq_true rfl) (Nat.le_of_ble_eq_true rfl) rfl rfl rfl q704 d_M_advance_2 ?_
  refine r_iload_n X d_M_advance_5 rfl 1 rfl ?_
  refine r_if_lt (tgt := 23) X d_M_advance_6 (by decide) (fun hc3 => ?_) (fun hc3 => ?_)
  · have hf := (if_pos hc3).symm.trans hf
    refine r_ldc2 X d_M_advance_23 q1004 ?_
    cases hf
    refine r_widen (kc2 := rm_M_advance.cells) (ks2 := rm_M_advance.slots) (Nat.le_of_ble_eq_true rfl) (Nat.le_of_ble_eq_true rfl) ?_
    exact r_lret X hret hlk d_M_advance_26
  · have hf := (if_neg hc3).symm.trans hf
    refine r_aload_n X d_M_advance_9 rfl 0 rfl ?_
    obtain ⟨x4, h5, hf⟩ := obind hf
    refine r_ld_L (ci := 11) (k := 5) X h5 (Nat.le_of_ble_eq_true rfl) (Nat.le_of_ble_eq_true rfl) rfl rfl q709 d_M_advance_10 ?_
    refine r_iload_n X d_M_advance_13 rfl 1 rfl ?_
    refine r_i2l X d_M_advance_14 ?_
    refine r_ladd X d_M_advance_15 ?_
    refine r_ldc2 X d_M_advance_16 q1003 ?_
    refine r_lcmp X d_M_advance_19 ?_
    refine r_if_le (tgt := 27) X d_M_advance_20 (by decide) (fun hc6 => ?_) (fun hc6 => ?_)
    · have hf := (if_pos hc6).symm.trans hf
      refine r_aload_n X d_M_advance_27 rfl 0 rfl ?_
      refine r_dup X d_M_advance_28 rfl ?_
      obtain ⟨x7, h8, hf⟩ := obind hf
      refine r_ld_L (ci := 11) (k := 5) X h8 (Nat.le_of_ble_eq_true rfl) (Nat.le_of_ble_eq_true rfl) rfl rfl q709 d_M_advance_29 ?_
      refine r_iload_n X d_M_advance_32 rfl 1 rfl ?_
      refine r_i2l X d_M_advance_33 ?_
      refine r_ladd X d_M_advance_34 ?_
      obtain ⟨σ9, h10, hf⟩ := obind hf
      refine r_st_L (ci := 11) (k := 5) X h10 (Nat.le_of_ble_eq_true rfl) (Nat.le_of_ble_eq_true rfl) rfl rfl rfl q709 d_M_advance_35 ?_
      refine r_aload_n X d_M_advance_38 rfl 0 rfl ?_
      obtain ⟨x11, h12, hf⟩ := obind hf
      refine r_ld_L (ci := 11) (k := 5) X h12 (Nat.le_of_ble_eq_true rfl) (Nat.le_of_ble_eq_true rfl) rfl rfl q709 d_M_advance_39 ?_
      cases hf
      refine r_widen (kc2 := rm_M_advance.cells) (ks2 := rm_M_advance.slots) (Nat.le_of_ble_eq_true rfl) (Nat.le_of_ble_eq_true rfl) ?_
      exact r_lret X hret hlk d_M_advance_42
    · have hf := (if_neg hc6).symm.trans hf
      refine r_ldc2 X d_M_advance_23 q1004 ?_
      cases hf
      refine r_widen (kc2 := rm_M_advance.cells) (ks2 := rm_M_advance.slots) (Nat.le_of_ble_eq_true rfl) (Nat.le_of_ble_eq_true rfl) ?_
      exact r_lret X hret hlk d_M_advance_26

def f_M_maintain (n : Nat) (v0 : Option Nat) (σ : Hp) : Option (Int32 × Hp) :=
  Option.bind (st_I σ v0 11 0 0) fun σ1 =>
  Option.bind (is_O σ1 v0 11) fun x4 =>
  Option.bind (f_M_maintenance n v0 σ1) fun σ6 =>
  Option.bind (is_O σ6 v0 11) fun x8 =>
  pb (f_M_all n v0 σ6) fun x11 σ10 =>
  some (x11, σ10)
set_option maxRecDepth 100000 in
theorem c_M_maintain {l : Launch} {DD : DT} (n : Nat) (v0 : Option Nat) {σ0 σz : Hp} {rz : Int32} (hf : f_M_maintain n v0 σ0 = some (rz, σz)) : CT l DD y_M_maintain prog_13_method_40_code 1 (some .int) rm_M_maintain [tR v0] σ0 (some (tI rz)) σz := by
  refine r_met (by decide) (Nat.le_of_ble_eq_true rfl) ?_
  intro p e s m args below meth c X hret hlk hnm
  unfold f_M_maintain at hf
  refine r_aload_n X d_M_maintain_0 rfl 0 rfl ?_
  refine r_iconst (v := 0) X d_M_maintain_1 (by decide) ?_
  obtain ⟨σ1, h2, hf⟩ := obind hf
  refine r_st_I (ci := 11) (k := 0) X h2 (Nat.le_of_ble_eq_true rfl) (Nat.le_of_ble_eq_true rfl) rfl rfl rfl q704 d_M_maintain_2 ?_
  refine r_aload_n X d_M_maintain_5 rfl 0 rfl ?_
  obtain ⟨x4, h3, hf⟩ := obind hf
  obtain ⟨σ6, h5, hf⟩ := obind hf
  refine r_callV (st := []) X [] (ci := 11) h3 (Nat.le_of_ble_eq_true rfl) q906 q908 sl26 (c_M_maintenance n v0 h5) q909 q11 y_M_maintenance_ok rfl ⟨Nat.le_of_ble_eq_true rfl, Nat.le_of_ble_eq_true rfl⟩ (Nat.le_of_ble_eq_true rfl) ⟨Nat.le_of_ble_eq_true rfl, Nat.le_of_ble_eq_true rfl⟩ d_M_maintain_6 ?_
  refine r_aload_n X d_M_maintain_9 rfl 0 rfl ?_
  obtain ⟨x8, h7, hf⟩ := obind hf
  obtain ⟨x11, σ10, h9, hf⟩ := pbind hf
  refine r_callV (st := []) X [] (ci := 11) h7 (Nat.le_of_ble_eq_true rfl) q954 q956 sl38 (c_M_all n v0 h9) q957 q11 y_M_all_ok rfl ⟨Nat.le_of_ble_eq_true rfl, Nat.le_of_ble_eq_true rfl⟩ (Nat.le_of_ble_eq_true rfl) ⟨Nat.le_of_ble_eq_true rfl, Nat.le_of_ble_eq_true rfl⟩ d_M_maintain_10 ?_
  cases hf
  refine r_widen (kc2 := rm_M_maintain.cells) (ks2 := rm_M_maintain.slots) (Nat.le_of_ble_eq_true rfl) (Nat.le_of_ble_eq_true rfl) ?_
  exact r_iret X hret hlk d_M_maintain_13

def f_M_inMap_44 (n : Nat) (rec4 : Option Nat → Int32 → Int32 → Int32 → Hp → Option (Int32 × Hp)) (v0 : Option Nat) (v1 : Int32) (v3 : Int32) (w0 : Int32) (w1 : Int32) (σ : Hp) : Option (Int32 × Hp) :=
  rec4 v0 v1 (w1 + w0) (v3 + 1) σ
set_option maxRecDepth 100000 in
theorem b_M_inMap_44 {p : Program} {l : Launch} {e : Env} {s : State} {m : MethodId} {args : Array Value} {below : List Frame} {meth : Method} {c : Code} {DD : DT} {σ0 σz : Hp} {rz : Int32} (X : CX p s m args c prog_13_method_41_code 4 (dm σ0) DD y_M_inMap.cls) (hret : meth.sig.returnType = some .int) (hlk : meth.locks = false) (hnm : meth.name = y_M_inMap.name) (n : Nat) (rec4 : Option Nat → Int32 → Int32 → Int32 → Hp → Option (Int32 × Hp)) (hrec4 : ∀ (v0 : Option Nat) (v1 : Int32) (v2 : Int32) (v3 : Int32) (σ : Hp), rec4 v0 v1 v2 v3 σ = some (rz, σz) → GG p l e rm_M_inMap s m args below meth c 4 (dm σ0) DD (MQ below (Post DD σ0 (some (tI rz)) σz) args s rm_M_inMap.cells rm_M_inMap.slots (dm σ0)) 0 0 σ 4 [(0, tR v0), (1, tI v1), (2, tI v2), (3, tI v3)] []) (v0 : Option Nat) (v1 : Int32) (v3 : Int32) (w0 : Int32) (w1 : Int32) (σ : Hp) (hf : f_M_inMap_44 n rec4 v0 v1 v3 w0 w1 σ = some (rz, σz)) : GG p l e rm_M_inMap s m args below meth c 4 (dm σ0) DD (MQ below (Post DD σ0 (some (tI rz)) σz) args s rm_M_inMap.cells rm_M_inMap.slots (dm σ0)) 0 0 σ 44 [(0, tR v0), (1, tI v1), (3, tI v3)] [tI w0, tI w1] := by
  unfold f_M_inMap_44 at hf
  refine r_iadd X d_M_inMap_44 ?_
  refine r_istore_n (lv' := [(0, tR v0), (1, tI v1), (2, tI (w1 + w0)), (3, tI v3)]) X [1, 2, 0, 3] d_M_inMap_45 rfl (Nat.le_of_ble_eq_true rfl) rfl ?_
  refine r_iinc (lv' := [(0, tR v0), (1, tI v1), (2, tI (w1 + w0)), (3, tI (v3 + 1))]) (j := 3) X [1, 2, 3, 0] d_M_inMap_46 rfl rfl (Nat.le_of_ble_eq_true rfl) rfl ?_
  refine r_goto (tgt := 4) X d_M_inMap_49 (by decide) ?_
  refine r_widen (kc2 := 0) (ks2 := 0) (Nat.le_of_ble_eq_true rfl) (Nat.le_of_ble_eq_true rfl) ?_
  refine r_sub [0, 1, 2, 3] (lv' := [(0, tR v0), (1, tI v1), (2, tI (w1 + w0)), (3, tI (v3 + 1))]) rfl ?_
  exact hrec4 v0 v1 (w1 + w0) (v3 + 1) σ hf

def f_M_inMap_43 (n : Nat) (rec4 : Option Nat → Int32 → Int32 → Int32 → Hp → Option (Int32 × Hp)) (v0 : Option Nat) (v1 : Int32) (v3 : Int32) (w0 : Int32) (σ : Hp) : Option (Int32 × Hp) :=
  f_M_inMap_44 n rec4 v0 v1 v3 0 w0 σ
set_option maxRecDepth 100000 in
theorem b_M_inMap_43 {p : Program} {l : Launch} {e : Env} {s : State} {m : MethodId} {args : Array Value} {below : List Frame} {meth : Method} {c : Code} {DD : DT} {σ0 σz : Hp} {rz : Int32} (X : CX p s m args c prog_13_method_41_code 4 (dm σ0) DD y_M_inMap.cls) (hret : meth.sig.returnType = some .int) (hlk : meth.locks = false) (hnm : meth.name = y_M_inMap.name) (n : Nat) (rec4 : Option Nat → Int32 → Int32 → Int32 → Hp → Option (Int32 × Hp)) (hrec4 : ∀ (v0 : Option Nat) (v1 : Int32) (v2 : Int32) (v3 : Int32) (σ : Hp), rec4 v0 v1 v2 v3 σ = some (rz, σz) → GG p l e rm_M_inMap s m args below meth c 4 (dm σ0) DD (MQ below (Post DD σ0 (some (tI rz)) σz) args s rm_M_inMap.cells rm_M_inMap.slots (dm σ0)) 0 0 σ 4 [(0, tR v0), (1, tI v1), (2, tI v2), (3, tI v3)] []) (v0 : Option Nat) (v1 : Int32) (v3 : Int32) (w0 : Int32) (σ : Hp) (hf : f_M_inMap_43 n rec4 v0 v1 v3 w0 σ = some (rz, σz)) : GG p l e rm_M_inMap s m args below meth c 4 (dm σ0) DD (MQ below (Post DD σ0 (some (tI rz)) σz) args s rm_M_inMap.cells rm_M_inMap.slots (dm σ0)) 0 0 σ 43 [(0, tR v0), (1, tI v1), (3, tI v3)] [tI w0] := by
  unfold f_M_inMap_43 at hf
  refine r_iconst (v := 0) X d_M_inMap_43 (by decide) ?_
  refine r_widen (kc2 := 0) (ks2 := 0) (Nat.le_of_ble_eq_true rfl) (Nat.le_of_ble_eq_true rfl) ?_
  refine r_sub [0, 1, 2] (lv' := [(0, tR v0), (1, tI v1), (3, tI v3)]) rfl ?_
  exact b_M_inMap_44 X hret hlk hnm n rec4 hrec4 v0 v1 v3 0 w0 σ hf

def f_M_inMap_39 (n : Nat) (rec4 : Option Nat → Int32 → Int32 → Int32 → Hp → Option (Int32 × Hp)) (v0 : Option Nat) (v1 : Int32) (v3 : Int32) (w0 : Int32) (σ : Hp) : Option (Int32 × Hp) :=
  f_M_inMap_44 n rec4 v0 v1 v3 1 w0 σ
set_option maxRecDepth 100000 in
theorem b_M_inMap_39 {p : Program} {l : Launch} {e : Env} {s : State} {m : MethodId} {args : Array Value} {below : List Frame} {meth : Method} {c : Code} {DD : DT} {σ0 σz : Hp} {rz : Int32} (X : CX p s m args c prog_13_method_41_code 4 (dm σ0) DD y_M_inMap.cls) (hret : meth.sig.returnType = some .int) (hlk : meth.locks = false) (hnm : meth.name = y_M_inMap.name) (n : Nat) (rec4 : Option Nat → Int32 → Int32 → Int32 → Hp → Option (Int32 × Hp)) (hrec4 : ∀ (v0 : Option Nat) (v1 : Int32) (v2 : Int32) (v3 : Int32) (σ : Hp), rec4 v0 v1 v2 v3 σ = some (rz, σz) → GG p l e rm_M_inMap s m args below meth c 4 (dm σ0) DD (MQ below (Post DD σ0 (some (tI rz)) σz) args s rm_M_inMap.cells rm_M_inMap.slots (dm σ0)) 0 0 σ 4 [(0, tR v0), (1, tI v1), (2, tI v2), (3, tI v3)] []) (v0 : Option Nat) (v1 : Int32) (v3 : Int32) (w0 : Int32) (σ : Hp) (hf : f_M_inMap_39 n rec4 v0 v1 v3 w0 σ = some (rz, σz)) : GG p l e rm_M_inMap s m args below meth c 4 (dm σ0) DD (MQ below (Post DD σ0 (some (tI rz)) σz) args s rm_M_inMap.cells rm_M_inMap.slots (dm σ0)) 0 0 σ 39 [(0, tR v0), (1, tI v1), (3, tI v3)] [tI w0] := by
  unfold f_M_inMap_39 at hf
  refine r_iconst (v := 1) X d_M_inMap_39 (by decide) ?_
  refine r_goto (tgt := 44) X d_M_inMap_40 (by decide) ?_
  refine r_widen (kc2 := 0) (ks2 := 0) (Nat.le_of_ble_eq_true rfl) (Nat.le_of_ble_eq_true rfl) ?_
  refine r_sub [0, 1, 2] (lv' := [(0, tR v0), (1, tI v1), (3, tI v3)]) rfl ?_
  exact b_M_inMap_44 X hret hlk hnm n rec4 hrec4 v0 v1 v3 1 w0 σ hf

def f_M_inMap_4 (n : Nat)  : Nat → Option Nat → Int32 → Int32 → Int32 → Hp → Option (Int32 × Hp)
  | 0, _, _, _, _, _ => none
  | i + 1, v0, v1, v2, v3, σ =>
    if 1000 ≤ v3 then
    (
      some (v2, σ))
    else
    (
      Option.bind (ld_R σ v0 11 6) fun x2 =>
      Option.bind (al_I σ 0 x2 v3) fun x4 =>
      if x4 = ((-1)) then
      (
        f_M_inMap_43 n (f_M_inMap_4 n i) v0 v1 v3 v2 σ)
      else
      (
        if v1 = 0 then
        (
          f_M_inMap_39 n (f_M_inMap_4 n i) v0 v1 v3 v2 σ)
        else
        (
          Option.bind (ld_R σ v0 11 6) fun x8 =>
          Option.bind (al_I σ 0 x8 v3) fun x10 =>
          Option.bind (is_O σ v0 11) fun x13 =>
          pb (f_M_isOver v0 x10 σ) fun x16 σ15 =>
          if x16 = 0 then
          (
            f_M_inMap_43 n (f_M_inMap_4 n i) v0 v1 v3 v2 σ15)
          else
          (
            f_M_inMap_39 n (f_M_inMap_4 n i) v0 v1 v3 v2 σ15))))
set_option maxRecDepth 100000 in
theorem b_M_inMap_4 {p : Program} {l : Launch} {e : Env} {s : State} {m : MethodId} {args : Array Value} {below : List Frame} {meth : Method} {c : Code} {DD : DT} {σ0 σz : Hp} {rz : Int32} (X : CX p s m args c prog_13_method_41_code 4 (dm σ0) DD y_M_inMap.cls) (hret : meth.sig.returnType = some .int) (hlk : meth.locks = false) (hnm : meth.name = y_M_inMap.name) (n : Nat)   : ∀ (i : Nat) (v0 : Option Nat) (v1 : Int32) (v2 : Int32) (v3 : Int32) (σ : Hp) (hf : f_M_inMap_4 n  i v0 v1 v2 v3 σ = some (rz, σz)), GG p l e rm_M_inMap s m args below meth c 4 (dm σ0) DD (MQ below (Post DD σ0 (some (tI rz)) σz) args s rm_M_inMap.cells rm_M_inMap.slots (dm σ0)) 0 0 σ 4 [(0, tR v0), (1, tI v1), (2, tI v2), (3, tI v3)] [] := by
  intro i
  induction i with
  | zero => intro v0 v1 v2 v3 σ hf; cases hf
  | succ i ih =>
    intro v0 v1 v2 v3 σ hf
    simp only [f_M_inMap_4] at hf
    refine r_iload_n X d_M_inMap_4 rfl 3 rfl ?_
    refine r_sipush (v := 1000) X d_M_inMap_5 (by decide) ?_
    refine r_icmp_ge (tgt := 52) X d_M_inMap_8 (by decide) (fun hc1 => ?_) (fun hc1 => ?_)
    · have hf := (if_pos hc1).symm.trans hf
      refine r_iload_n X d_M_inMap_52 rfl 2 rfl ?_
      cases hf
      refine r_widen (kc2 := rm_M_inMap.cells) (ks2 := rm_M_inMap.slots) (Nat.le_of_ble_eq_true rfl) (Nat.le_of_ble_eq_true rfl) ?_
      exact r_iret X hret hlk d_M_inMap_53
    · have hf := (if_neg hc1).symm.trans hf
      refine r_iload_n X d_M_inMap_11 rfl 2 rfl ?_
      refine r_aload_n X d_M_inMap_12 rfl 0 rfl ?_
      obtain ⟨x2, h3, hf⟩ := obind hf
      refine r_ld_R (ci := 11) (k := 6) X h3 (Nat.le_of_ble_eq_true rfl) (Nat.le_of_ble_eq_true rfl) rfl rfl q710 d_M_inMap_13 ?_
      refine r_iload_n X d_M_inMap_16 rfl 3 rfl ?_
      obtain ⟨x4, h5, hf⟩ := obind hf
      refine r_al_I X h5 d_M_inMap_17 ?_
      refine r_iconst (v := -1) X d_M_inMap_18 (by decide) ?_
      refine r_icmp_eq (tgt := 43) X d_M_inMap_19 (by decide) (fun hc6 => ?_) (fun hc6 => ?_)
      · have hf := (if_pos hc6).symm.trans hf
        refine r_widen (kc2 := 0) (ks2 := 0) (Nat.le_of_ble_eq_true rfl) (Nat.le_of_ble_eq_true rfl) ?_
        refine r_sub [0, 1, 3] (lv' := [(0, tR v0), (1, tI v1), (3, tI v3)]) rfl ?_
        exact b_M_inMap_43 X hret hlk hnm n (f_M_inMap_4 n i) ih v0 v1 v3 v2 σ hf
      · have hf := (if_neg hc6).symm.trans hf
        refine r_iload_n X d_M_inMap_22 rfl 1 rfl ?_
        refine r_if_eq (tgt := 39) X d_M_inMap_23 (by decide) (fun hc7 => ?_) (fun hc7 => ?_)
        · have hf := (if_pos hc7).symm.trans hf
          refine r_widen (kc2 := 0) (ks2 := 0) (Nat.le_of_ble_eq_true rfl) (Nat.le_of_ble_eq_true rfl) ?_
          refine r_sub [0, 1, 3] (lv' := [(0, tR v0), (1, tI v1), (3, tI v3)]) rfl ?_
          exact b_M_inMap_39 X hret hlk hnm n (f_M_inMap_4 n i) ih v0 v1 v3 v2 σ hf
        · have hf := (if_neg hc7).symm.trans hf
          refine r_aload_n X d_M_inMap_26 rfl 0 rfl ?_
          refine r_aload_n X d_M_inMap_27 rfl 0 rfl ?_
          obtain ⟨x8, h9, hf⟩ := obind hf
          refine r_ld_R (ci := 11) (k := 6) X h9 (Nat.le_of_ble_eq_true rfl) (Nat.le_of_ble_eq_true rfl) rfl rfl q710 d_M_inMap_28 ?_
          refine r_iload_n X d_M_inMap_31 rfl 3 rfl ?_
          obtain ⟨x10, h11, hf⟩ := obind hf
          refine r_al_I X h11 d_M_inMap_32 ?_
          obtain ⟨x13, h12, hf⟩ := obind hf
          obtain ⟨x16, σ15, h14, hf⟩ := pbind hf
          refine r_callV (st := [tI v2]) X [tI x10] (ci := 11) h12 (Nat.le_of_ble_eq_true rfl) q873 q875 sl20 (c_M_isOver v0 x10 h14) q876 q11 y_M_isOver_ok rfl ⟨Nat.le_of_ble_eq_true rfl, Nat.le_of_ble_eq_true rfl⟩ (Nat.le_of_ble_eq_true rfl) ⟨Nat.le_of_ble_eq_true rfl, Nat.le_of_ble_eq_true rfl⟩ d_M_inMap_33 ?_
          refine r_if_eq (tgt := 43) X d_M_inMap_36 (by decide) (fun hc17 => ?_) (fun hc17 => ?_)
          · have hf := (if_pos hc17).symm.trans hf
            refine r_widen (kc2 := 0) (ks2 := 0) (Nat.le_of_ble_eq_true rfl) (Nat.le_of_ble_eq_true rfl) ?_
            refine r_sub [0, 1, 3] (lv' := [(0, tR v0), (1, tI v1), (3, tI v3)]) rfl ?_
            exact b_M_inMap_43 X hret hlk hnm n (f_M_inMap_4 n i) ih v0 v1 v3 v2 σ15 hf
          · have hf := (if_neg hc17).symm.trans hf
            refine r_widen (kc2 := 0) (ks2 := 0) (Nat.le_of_ble_eq_true rfl) (Nat.le_of_ble_eq_true rfl) ?_
            refine r_sub [0, 1, 3] (lv' := [(0, tR v0), (1, tI v1), (3, tI v3)]) rfl ?_
            exact b_M_inMap_39 X hret hlk hnm n (f_M_inMap_4 n i) ih v0 v1 v3 v2 σ15 hf

def f_M_inMap (n : Nat) (v0 : Option Nat) (v1 : Int32) (σ : Hp) : Option (Int32 × Hp) :=
  f_M_inMap_4 n  n v0 v1 0 0 σ
set_option maxRecDepth 100000 in
theorem c_M_inMap {l : Launch} {DD : DT} (n : Nat) (v0 : Option Nat) (v1 : Int32) {σ0 σz : Hp} {rz : Int32} (hf : f_M_inMap n v0 v1 σ0 = some (rz, σz)) : CT l DD y_M_inMap prog_13_method_41_code 4 (some .int) rm_M_inMap [tR v0, tI v1] σ0 (some (tI rz)) σz := by
  refine r_met (by decide) (Nat.le_of_ble_eq_true rfl) ?_
  intro p e s m args below meth c X hret hlk hnm
  unfold f_M_inMap at hf
  refine r_iconst (v := 0) X d_M_inMap_0 (by decide) ?_
  refine r_istore_n (lv' := [(0, tR v0), (1, tI v1), (2, tI 0)]) X [1, 2, 0] d_M_inMap_1 rfl (Nat.le_of_ble_eq_true rfl) rfl ?_
  refine r_iconst (v := 0) X d_M_inMap_2 (by decide) ?_
  refine r_istore_n (lv' := [(0, tR v0), (1, tI v1), (2, tI 0), (3, tI 0)]) X [1, 2, 3, 0] d_M_inMap_3 rfl (Nat.le_of_ble_eq_true rfl) rfl ?_
  refine r_widen (kc2 := 0) (ks2 := 0) (Nat.le_of_ble_eq_true rfl) (Nat.le_of_ble_eq_true rfl) ?_
  refine r_sub [0, 1, 2, 3] (lv' := [(0, tR v0), (1, tI v1), (2, tI 0), (3, tI 0)]) rfl ?_
  exact b_M_inMap_4 X hret hlk hnm n   n v0 v1 0 0 σ0 hf

def f_M_onWay_26 (n : Nat) (rec4 : Option Nat → Int32 → Int32 → Hp → Option (Int32 × Hp)) (v0 : Option Nat) (v2 : Int32) (w0 : Int32) (w1 : Int32) (σ : Hp) : Option (Int32 × Hp) :=
  rec4 v0 (w1 + w0) (v2 + 1) σ
set_option maxRecDepth 100000 in
theorem b_M_onWay_26 {p : Program} {l : Launch} {e : Env} {s : State} {m : MethodId} {args : Array Value} {below : List Frame} {meth : Method} {c : Code} {DD : DT} {σ0 σz : Hp} {rz : Int32} (X : CX p s m args c prog_13_method_42_code 3 (dm σ0) DD y_M_onWay.cls) (hret : meth.sig.returnType = some .int) (hlk : meth.locks = false) (hnm : meth.name = y_M_onWay.name) (n : Nat) (rec4 : Option Nat → Int32 → Int32 → Hp → Option (Int32 × Hp)) (hrec4 : ∀ (v0 : Option Nat) (v1 : Int32) (v2 : Int32) (σ : Hp), rec4 v0 v1 v2 σ = some (rz, σz) → GG p l e rm_M_onWay s m args below meth c 3 (dm σ0) DD (MQ below (Post DD σ0 (some (tI rz)) σz) args s rm_M_onWay.cells rm_M_onWay.slots (dm σ0)) 0 0 σ 4 [(0, tR v0), (1, tI v1), (2, tI v2)] []) (v0 : Option Nat) (v2 : Int32) (w0 : Int32) (w1 : Int32) (σ : Hp) (hf : f_M_onWay_26 n rec4 v0 v2 w0 w1 σ = some (rz, σz)) : GG p l e rm_M_onWay s m args below meth c 3 (dm σ0) DD (MQ below (Post DD σ0 (some (tI rz)) σz) args s rm_M_onWay.cells rm_M_onWay.slots (dm σ0)) 0 0 σ 26 [(0, tR v0), (2, tI v2)] [tI w0, tI w1] := by
  unfold f_M_onWay_26 at hf
  refine r_iadd X d_M_onWay_26 ?_
  refine r_istore_n (lv' := [(0, tR v0), (1, tI (w1 + w0)), (2, tI v2)]) X [1, 0, 2] d_M_onWay_27 rfl (Nat.le_of_ble_eq_true rfl) rfl ?_
  refine r_iinc (lv' := [(0, tR v0), (1, tI (w1 + w0)), (2, tI (v2 + 1))]) (j := 2) X [1, 2, 0] d_M_onWay_28 rfl rfl (Nat.le_of_ble_eq_true rfl) rfl ?_
  refine r_goto (tgt := 4) X d_M_onWay_31 (by decide) ?_
  refine r_widen (kc2 := 0) (ks2 := 0) (Nat.le_of_ble_eq_true rfl) (Nat.le_of_ble_eq_true rfl) ?_
  refine r_sub [0, 1, 2] (lv' := [(0, tR v0), (1, tI (w1 + w0)), (2, tI (v2 + 1))]) rfl ?_
  exact hrec4 v0 (w1 + w0) (v2 + 1) σ hf

def f_M_onWay_4 (n : Nat)  : Nat → Option Nat → Int32 → Int32 → Hp → Option (Int32 × Hp)
  | 0, _, _, _, _ => none
  | i + 1, v0, v1, v2, σ =>
    if 1000 ≤ v2 then
    (
      some (v1, σ))
    else
    (
      Option.bind (ld_R σ v0 11 7) fun x2 =>
      Option.bind (al_I σ 0 x2 v2) fun x4 =>
      if x4 ≤ 0 then
      (
        f_M_onWay_26 n (f_M_onWay_4 n i) v0 v2 0 v1 σ)
      else
      (
        f_M_onWay_26 n (f_M_onWay_4 n i) v0 v2 1 v1 σ))
set_option maxRecDepth 100000 in
theorem b_M_onWay_4 {p : Program} {l : Launch} {e : Env} {s : State} {m : MethodId} {args : Array Value} {below : List Frame} {meth : Method} {c : Code} {DD : DT} {σ0 σz : Hp} {rz : Int32} (X : CX p s m args c prog_13_method_42_code 3 (dm σ0) DD y_M_onWay.cls) (hret : meth.sig.returnType = some .int) (hlk : meth.locks = false) (hnm : meth.name = y_M_onWay.name) (n : Nat)   : ∀ (i : Nat) (v0 : Option Nat) (v1 : Int32) (v2 : Int32) (σ : Hp) (hf : f_M_onWay_4 n  i v0 v1 v2 σ = some (rz, σz)), GG p l e rm_M_onWay s m args below meth c 3 (dm σ0) DD (MQ below (Post DD σ0 (some (tI rz)) σz) args s rm_M_onWay.cells rm_M_onWay.slots (dm σ0)) 0 0 σ 4 [(0, tR v0), (1, tI v1), (2, tI v2)] [] := by
  intro i
  induction i with
  | zero => intro v0 v1 v2 σ hf; cases hf
  | succ i ih =>
    intro v0 v1 v2 σ hf
    simp only [f_M_onWay_4] at hf
    refine r_iload_n X d_M_onWay_4 rfl 2 rfl ?_
    refine r_sipush (v := 1000) X d_M_onWay_5 (by decide) ?_
    refine r_icmp_ge (tgt := 34) X d_M_onWay_8 (by decide) (fun hc1 => ?_) (fun hc1 => ?_)
    · have hf := (if_pos hc1).symm.trans hf
      refine r_iload_n X d_M_onWay_34 rfl 1 rfl ?_
      cases hf
      refine r_widen (kc2 := rm_M_onWay.cells) (ks2 := rm_M_onWay.slots) (Nat.le_of_ble_eq_true rfl) (Nat.le_of_ble_eq_true rfl) ?_
      exact r_iret X hret hlk d_M_onWay_35
    · have hf := (if_neg hc1).symm.trans hf
      refine r_iload_n X d_M_onWay_11 rfl 1 rfl ?_
      refine r_aload_n X d_M_onWay_12 rfl 0 rfl ?_
      obtain ⟨x2, h3, hf⟩ := obind hf
      refine r_ld_R (ci := 11) (k := 7) X h3 (Nat.le_of_ble_eq_true rfl) (Nat.le_of_ble_eq_true rfl) rfl rfl q711 d_M_onWay_13 ?_
      refine r_iload_n X d_M_onWay_16 rfl 2 rfl ?_
      obtain ⟨x4, h5, hf⟩ := obind hf
      refine r_al_I X h5 d_M_onWay_17 ?_
      refine r_if_le (tgt := 25) X d_M_onWay_18 (by decide) (fun hc6 => ?_) (fun hc6 => ?_)
      · have hf := (if_pos hc6).symm.trans hf
        refine r_iconst (v := 0) X d_M_onWay_25 (by decide) ?_
        refine r_widen (kc2 := 0) (ks2 := 0) (Nat.le_of_ble_eq_true rfl) (Nat.le_of_ble_eq_true rfl) ?_
        refine r_sub [0, 2] (lv' := [(0, tR v0), (2, tI v2)]) rfl ?_
        exact b_M_onWay_26 X hret hlk hnm n (f_M_onWay_4 n i) ih v0 v2 0 v1 σ hf
      · have hf := (if_neg hc6).symm.trans hf
        refine r_iconst (v := 1) X d_M_onWay_21 (by decide) ?_
        refine r_goto (tgt := 26) X d_M_onWay_22 (by decide) ?_
        refine r_widen (kc2 := 0) (ks2 := 0) (Nat.le_of_ble_eq_true rfl) (Nat.le_of_ble_eq_true rfl) ?_
        refine r_sub [0, 2] (lv' := [(0, tR v0), (2, tI v2)]) rfl ?_
        exact b_M_onWay_26 X hret hlk hnm n (f_M_onWay_4 n i) ih v0 v2 1 v1 σ hf

def f_M_onWay (n : Nat) (v0 : Option Nat) (σ : Hp) : Option (Int32 × Hp) :=
  f_M_onWay_4 n  n v0 0 0 σ
set_option maxRecDepth 100000 in
theorem c_M_onWay {l : Launch} {DD : DT} (n : Nat) (v0 : Option Nat) {σ0 σz : Hp} {rz : Int32} (hf : f_M_onWay n v0 σ0 = some (rz, σz)) : CT l DD y_M_onWay prog_13_method_42_code 3 (some .int) rm_M_onWay [tR v0] σ0 (some (tI rz)) σz := by
  refine r_met (by decide) (Nat.le_of_ble_eq_true rfl) ?_
  intro p e s m args below meth c X hret hlk hnm
  unfold f_M_onWay at hf
  refine r_iconst (v := 0) X d_M_onWay_0 (by decide) ?_
  refine r_istore_n (lv' := [(0, tR v0), (1, tI 0)]) X [1, 0] d_M_onWay_1 rfl (Nat.le_of_ble_eq_true rfl) rfl ?_
  refine r_iconst (v := 0) X d_M_onWay_2 (by decide) ?_
  refine r_istore_n (lv' := [(0, tR v0), (1, tI 0), (2, tI 0)]) X [1, 2, 0] d_M_onWay_3 rfl (Nat.le_of_ble_eq_true rfl) rfl ?_
  refine r_widen (kc2 := 0) (ks2 := 0) (Nat.le_of_ble_eq_true rfl) (Nat.le_of_ble_eq_true rfl) ?_
  refine r_sub [0, 1, 2] (lv' := [(0, tR v0), (1, tI 0), (2, tI 0)]) rfl ?_
  exact b_M_onWay_4 X hret hlk hnm n   n v0 0 0 σ0 hf

def f_M_count (n : Nat) (v0 : Option Nat) (v1 : Int32) (σ : Hp) : Option (Int32 × Hp) :=
  Option.bind (st_I σ v0 11 0 0) fun σ1 =>
  if v1 = 0 then
  (
    Option.bind (is_O σ1 v0 11) fun x5 =>
    pb (f_M_inMap n v0 0 σ1) fun x8 σ7 =>
    some (x8, σ7))
  else
  if v1 = 1 then
  (
    Option.bind (is_O σ1 v0 11) fun x11 =>
    pb (f_M_inMap n v0 1 σ1) fun x14 σ13 =>
    some (x14, σ13))
  else
  if v1 = 2 then
  (
    Option.bind (is_O σ1 v0 11) fun x17 =>
    pb (f_M_all n v0 σ1) fun x20 σ19 =>
    some (x20, σ19))
  else
  if v1 = 3 then
  (
    Option.bind (is_O σ1 v0 11) fun x23 =>
    pb (f_M_weightOf n v0 1 σ1) fun x26 σ25 =>
    some (x26, σ25))
  else
  if v1 = 4 then
  (
    Option.bind (is_O σ1 v0 11) fun x29 =>
    pb (f_M_weightOf n v0 2 σ1) fun x32 σ31 =>
    some (x32, σ31))
  else
  if v1 = 5 then
  (
    Option.bind (is_O σ1 v0 11) fun x35 =>
    pb (f_M_weightOf n v0 3 σ1) fun x38 σ37 =>
    some (x38, σ37))
  else
  if v1 = 6 then
  (
    Option.bind (ld_I σ1 v0 11 32) fun x40 =>
    some (x40, σ1))
  else
  if v1 = 7 then
  (
    Option.bind (ld_I σ1 v0 11 37) fun x43 =>
    some (x43, σ1))
  else
  if v1 = 8 then
  (
    Option.bind (ld_I σ1 v0 11 38) fun x46 =>
    some (x46, σ1))
  else
  if v1 = 9 then
  (
    Option.bind (ld_I σ1 v0 11 41) fun x49 =>
    some (x49, σ1))
  else
  if v1 = 10 then
  (
    Option.bind (ld_I σ1 v0 11 42) fun x52 =>
    some (x52, σ1))
  else
  if v1 = 11 then
  (
    Option.bind (ld_I σ1 v0 11 43) fun x55 =>
    some (x55, σ1))
  else
  if v1 = 12 then
  (
    Option.bind (ld_I σ1 v0 11 44) fun x58 =>
    some (x58, σ1))
  else
  if v1 = 13 then
  (
    Option.bind (ld_R σ1 v0 11 24) fun x61 =>
    Option.bind (al_I σ1 0 x61 0) fun x63 =>
    Option.bind (ld_R σ1 v0 11 24) fun x65 =>
    Option.bind (al_I σ1 0 x65 1) fun x67 =>
    some (x63 + x67, σ1))
  else
  if v1 = 14 then
  (
    Option.bind (ld_I σ1 v0 11 27) fun x70 =>
    some (x70, σ1))
  else
  if v1 = 15 then
  (
    Option.bind (ld_I σ1 v0 11 29) fun x73 =>
    some (x73, σ1))
  else
  if v1 = 16 then
  (
    Option.bind (ld_I σ1 v0 11 28) fun x76 =>
    some (x76, σ1))
  else
  if v1 = 17 then
  (
    Option.bind (is_O σ1 v0 11) fun x80 =>
    pb (f_M_onWay n v0 σ1) fun x83 σ82 =>
    some (x83, σ82))
  else
  (
    some ((-1), σ1))
set_option maxRecDepth 100000 in
theorem c_M_count {l : Launch} {DD : DT} (n : Nat) (v0 : Option Nat) (v1 : Int32) {σ0 σz : Hp} {rz : Int32} (hf : f_M_count n v0 v1 σ0 = some (rz, σz)) : CT l DD y_M_count prog_13_method_43_code 2 (some .int) rm_M_count [tR v0, tI v1] σ0 (some (tI rz)) σz := by
  refine r_met (by decide) (Nat.le_of_ble_eq_true rfl) ?_
  intro p e s m args below meth c X hret hlk hnm
  unfold f_M_count at hf
  refine r_aload_n X d_M_count_0 rfl 0 rfl ?_
  refine r_iconst (v := 0) X d_M_count_1 (by decide) ?_
  obtain ⟨σ1, h2, hf⟩ := obind hf
  refine r_st_I (ci := 11) (k := 0) X h2 (Nat.le_of_ble_eq_true rfl) (Nat.le_of_ble_eq_true rfl) rfl rfl rfl q704 d_M_count_2 ?_
  refine r_iload_n X d_M_count_5 rfl 1 rfl ?_
  by_cases hc3 : v1 = 0
  · have hf := (if_pos hc3).symm.trans hf
    refine r_tableIn (tgt := 92) (off := 86) X d_M_count_6 (by rw [hc3]; decide) (by rw [hc3]; decide) (by rw [hc3]; decide) (by decide) ?_
    refine r_aload_n X d_M_count_92 rfl 0 rfl ?_
    refine r_iconst (v := 0) X d_M_count_93 (by decide) ?_
    obtain ⟨x5, h4, hf⟩ := obind hf
    obtain ⟨x8, σ7, h6, hf⟩ := pbind hf
    refine r_callV (st := []) X [tI 0] (ci := 11) h4 (Nat.le_of_ble_eq_true rfl) q1013 q1015 sl44 (c_M_inMap n v0 0 h6) q1016 q11 y_M_inMap_ok rfl ⟨Nat.le_of_ble_eq_true rfl, Nat.le_of_ble_eq_true rfl⟩ (Nat.le_of_ble_eq_true rfl) ⟨Nat.le_of_ble_eq_true rfl, Nat.le_of_ble_eq_true rfl⟩ d_M_count_94 ?_
    cases hf
    refine r_widen (kc2 := rm_M_count.cells) (ks2 := rm_M_count.slots) (Nat.le_of_ble_eq_true rfl) (Nat.le_of_ble_eq_true rfl) ?_
    exact r_iret X hret hlk d_M_count_97
  have hf := (if_neg hc3).symm.trans hf
  by_cases hc9 : v1 = 1
  · have hf := (if_pos hc9).symm.trans hf
    refine r_tableIn (tgt := 98) (off := 92) X d_M_count_6 (by rw [hc9]; decide) (by rw [hc9]; decide) (by rw [hc9]; decide) (by decide) ?_
    refine r_aload_n X d_M_count_98 rfl 0 rfl ?_
    refine r_iconst (v := 1) X d_M_count_99 (by decide) ?_
    obtain ⟨x11, h10, hf⟩ := obind hf
    obtain ⟨x14, σ13, h12, hf⟩ := pbind hf
    refine r_callV (st := []) X [tI 1] (ci := 11) h10 (Nat.le_of_ble_eq_true rfl) q1013 q1015 sl44 (c_M_inMap n v0 1 h12) q1016 q11 y_M_inMap_ok rfl ⟨Nat.le_of_ble_eq_true rfl, Nat.le_of_ble_eq_true rfl⟩ (Nat.le_of_ble_eq_true rfl) ⟨Nat.le_of_ble_eq_true rfl, Nat.le_of_ble_eq_true rfl⟩ d_M_count_100 ?_
    cases hf
    refine r_widen (kc2 := rm_M_count.cells) (ks2 := rm_M_count.slots) (Nat.le_of_ble_eq_true rfl) (Nat.le_of_ble_eq_true rfl) ?_
    exact r_iret X hret hlk d_M_count_103
  have hf := (if_neg hc9).symm.trans hf
  by_cases hc15 : v1 = 2
  · have hf := (if_pos hc15).symm.trans hf
    refine r_tableIn (tgt := 104) (off := 98) X d_M_count_6 (by rw [hc15]; decide) (by rw [hc15]; decide) (by rw [hc15]; decide) (by decide) ?_
    refine r_aload_n X d_M_count_104 rfl 0 rfl ?_
    obtain ⟨x17, h16, hf⟩ := obind hf
    obtain ⟨x20, σ19, h18, hf⟩ := pbind hf
    refine r_callV (st := []) X [] (ci := 11) h16 (Nat.le_of_ble_eq_true rfl) q954 q956 sl38 (c_M_all n v0 h18) q957 q11 y_M_all_ok rfl ⟨Nat.le_of_ble_eq_true rfl, Nat.le_of_ble_eq_true rfl⟩ (Nat.le_of_ble_eq_true rfl) ⟨Nat.le_of_ble_eq_true rfl, Nat.le_of_ble_eq_true rfl⟩ d_M_count_105 ?_
    cases hf
    refine r_widen (kc2 := rm_M_count.cells) (ks2 := rm_M_count.slots) (Nat.le_of_ble_eq_true rfl) (Nat.le_of_ble_eq_true rfl) ?_
    exact r_iret X hret hlk d_M_count_108
  have hf := (if_neg hc15).symm.trans hf
  by_cases hc21 : v1 = 3
  · have hf := (if_pos hc21).symm.trans hf
    refine r_tableIn (tgt := 109) (off := 103) X d_M_count_6 (by rw [hc21]; decide) (by rw [hc21]; decide) (by rw [hc21]; decide) (by decide) ?_
    refine r_aload_n X d_M_count_109 rfl 0 rfl ?_
    refine r_iconst (v := 1) X d_M_count_110 (by decide) ?_
    obtain ⟨x23, h22, hf⟩ := obind hf
    obtain ⟨x26, σ25, h24, hf⟩ := pbind hf
    refine r_callV (st := []) X [tI 1] (ci := 11) h22 (Nat.le_of_ble_eq_true rfl) q934 q936 sl33 (c_M_weightOf n v0 1 h24) q937 q11 y_M_weightOf_ok rfl ⟨Nat.le_of_ble_eq_true rfl, Nat.le_of_ble_eq_true rfl⟩ (Nat.le_of_ble_eq_true rfl) ⟨Nat.le_of_ble_eq_true rfl, Nat.le_of_ble_eq_true rfl⟩ d_M_count_111 ?_
    cases hf
    refine r_widen (kc2 := rm_M_count.cells) (ks2 := rm_M_count.slots) (Nat.le_of_ble_eq_true rfl) (Nat.le_of_ble_eq_true rfl) ?_
    exact r_iret X hret hlk d_M_count_114
  have hf := (if_neg hc21).symm.trans hf
  by_cases hc27 : v1 = 4
  · have hf := (if_pos hc27).symm.trans hf
    refine r_tableIn (tgt := 115) (off := 109) X d_M_count_6 (by rw [hc27]; decide) (by rw [hc27]; decide) (by rw [hc27]; decide) (by decide) ?_
    refine r_aload_n X d_M_count_115 rfl 0 rfl ?_
    refine r_iconst (v := 2) X d_M_count_116 (by decide) ?_
    obtain ⟨x29, h28, hf⟩ := obind hf
    obtain ⟨x32, σ31, h30, hf⟩ := pbind hf
    refine r_callV (st := []) X [tI 2] (ci := 11) h28 (Nat.le_of_ble_eq_true rfl) q934 q936 sl33 (c_M_weightOf n v0 2 h30) q937 q11 y_M_weightOf_ok rfl ⟨Nat.le_of_ble_eq_true rfl, Nat.le_of_ble_eq_true rfl⟩ (Nat.le_of_ble_eq_true rfl) ⟨Nat.le_of_ble_eq_true rfl, Nat.le_of_ble_eq_true rfl⟩ d_M_count_117 ?_
    cases hf
    refine r_widen (kc2 := rm_M_count.cells) (ks2 := rm_M_count.slots) (Nat.le_of_ble_eq_true rfl) (Nat.le_of_ble_eq_true rfl) ?_
    exact r_iret X hret hlk d_M_count_120
  have hf := (if_neg hc27).symm.trans hf
  by_cases hc33 : v1 = 5
  · have hf := (if_pos hc33).symm.trans hf
    refine r_tableIn (tgt := 121) (off := 115) X d_M_count_6 (by rw [hc33]; decide) (by rw [hc33]; decide) (by rw [hc33]; decide) (by decide) ?_
    refine r_aload_n X d_M_count_121 rfl 0 rfl ?_
    refine r_iconst (v := 3) X d_M_count_122 (by decide) ?_
    obtain ⟨x35, h34, hf⟩ := obind hf
    obtain ⟨x38, σ37, h36, hf⟩ := pbind hf
    refine r_callV (st := []) X [tI 3] (ci := 11) h34 (Nat.le_of_ble_eq_true rfl) q934 q936 sl33 (c_M_weightOf n v0 3 h36) q937 q11 y_M_weightOf_ok rfl ⟨Nat.le_of_ble_eq_true rfl, Nat.le_of_ble_eq_true rfl⟩ (Nat.le_of_ble_eq_true rfl) ⟨Nat.le_of_ble_eq_true rfl, Nat.le_of_ble_eq_true rfl⟩ d_M_count_123 ?_
    cases hf
    refine r_widen (kc2 := rm_M_count.cells) (ks2 := rm_M_count.slots) (Nat.le_of_ble_eq_true rfl) (Nat.le_of_ble_eq_true rfl) ?_
    exact r_iret X hret hlk d_M_count_126
  have hf := (if_neg hc33).symm.trans hf
  by_cases hc39 : v1 = 6
  · have hf := (if_pos hc39).symm.trans hf
    refine r_tableIn (tgt := 127) (off := 121) X d_M_count_6 (by rw [hc39]; decide) (by rw [hc39]; decide) (by rw [hc39]; decide) (by decide) ?_
    refine r_aload_n X d_M_count_127 rfl 0 rfl ?_
    obtain ⟨x40, h41, hf⟩ := obind hf
    refine r_ld_I (ci := 11) (k := 32) X h41 (Nat.le_of_ble_eq_true rfl) (Nat.le_of_ble_eq_true rfl) (Or.inl rfl) rfl q736 d_M_count_128 ?_
    cases hf
    refine r_widen (kc2 := rm_M_count.cells) (ks2 := rm_M_count.slots) (Nat.le_of_ble_eq_true rfl) (Nat.le_of_ble_eq_true rfl) ?_
    exact r_iret X hret hlk d_M_count_131
  have hf := (if_neg hc39).symm.trans hf
  by_cases hc42 : v1 = 7
  · have hf := (if_pos hc42).symm.trans hf
    refine r_tableIn (tgt := 132) (off := 126) X d_M_count_6 (by rw [hc42]; decide) (by rw [hc42]; decide) (by rw [hc42]; decide) (by decide) ?_
    refine r_aload_n X d_M_count_132 rfl 0 rfl ?_
    obtain ⟨x43, h44, hf⟩ := obind hf
    refine r_ld_I (ci := 11) (k := 37) X h44 (Nat.le_of_ble_eq_true rfl) (Nat.le_of_ble_eq_true rfl) (Or.inl rfl) rfl q741 d_M_count_133 ?_
    cases hf
    refine r_widen (kc2 := rm_M_count.cells) (ks2 := rm_M_count.slots) (Nat.le_of_ble_eq_true rfl) (Nat.le_of_ble_eq_true rfl) ?_
    exact r_iret X hret hlk d_M_count_136
  have hf := (if_neg hc42).symm.trans hf
  by_cases hc45 : v1 = 8
  · have hf := (if_pos hc45).symm.trans hf
    refine r_tableIn (tgt := 137) (off := 131) X d_M_count_6 (by rw [hc45]; decide) (by rw [hc45]; decide) (by rw [hc45]; decide) (by decide) ?_
    refine r_aload_n X d_M_count_137 rfl 0 rfl ?_
    obtain ⟨x46, h47, hf⟩ := obind hf
    refine r_ld_I (ci := 11) (k := 38) X h47 (Nat.le_of_ble_eq_true rfl) (Nat.le_of_ble_eq_true rfl) (Or.inl rfl) rfl q742 d_M_count_138 ?_
    cases hf
    refine r_widen (kc2 := rm_M_count.cells) (ks2 := rm_M_count.slots) (Nat.le_of_ble_eq_true rfl) (Nat.le_of_ble_eq_true rfl) ?_
    exact r_iret X hret hlk d_M_count_141
  have hf := (if_neg hc45).symm.trans hf
  by_cases hc48 : v1 = 9
  · have hf := (if_pos hc48).symm.trans hf
    refine r_tableIn (tgt := 142) (off := 136) X d_M_count_6 (by rw [hc48]; decide) (by rw [hc48]; decide) (by rw [hc48]; decide) (by decide) ?_
    refine r_aload_n X d_M_count_142 rfl 0 rfl ?_
    obtain ⟨x49, h50, hf⟩ := obind hf
    refine r_ld_I (ci := 11) (k := 41) X h50 (Nat.le_of_ble_eq_true rfl) (Nat.le_of_ble_eq_true rfl) (Or.inl rfl) rfl q745 d_M_count_143 ?_
    cases hf
    refine r_widen (kc2 := rm_M_count.cells) (ks2 := rm_M_count.slots) (Nat.le_of_ble_eq_true rfl) (Nat.le_of_ble_eq_true rfl) ?_
    exact r_iret X hret hlk d_M_count_146
  have hf := (if_neg hc48).symm.trans hf
  by_cases hc51 : v1 = 10
  · have hf := (if_pos hc51).symm.trans hf
    refine r_tableIn (tgt := 147) (off := 141) X d_M_count_6 (by rw [hc51]; decide) (by rw [hc51]; decide) (by rw [hc51]; decide) (by decide) ?_
    refine r_aload_n X d_M_count_147 rfl 0 rfl ?_
    obtain ⟨x52, h53, hf⟩ := obind hf
    refine r_ld_I (ci := 11) (k := 42) X h53 (Nat.le_of_ble_eq_true rfl) (Nat.le_of_ble_eq_true rfl) (Or.inl rfl) rfl q746 d_M_count_148 ?_
    cases hf
    refine r_widen (kc2 := rm_M_count.cells) (ks2 := rm_M_count.slots) (Nat.le_of_ble_eq_true rfl) (Nat.le_of_ble_eq_true rfl) ?_
    exact r_iret X hret hlk d_M_count_151
  have hf := (if_neg hc51).symm.trans hf
  by_cases hc54 : v1 = 11
  · have hf := (if_pos hc54).symm.trans hf
    refine r_tableIn (tgt := 152) (off := 146) X d_M_count_6 (by rw [hc54]; decide) (by rw [hc54]; decide) (by rw [hc54]; decide) (by decide) ?_
    refine r_aload_n X d_M_count_152 rfl 0 rfl ?_
    obtain ⟨x55, h56, hf⟩ := obind hf
    refine r_ld_I (ci := 11) (k := 43) X h56 (Nat.le_of_ble_eq_true rfl) (Nat.le_of_ble_eq_true rfl) (Or.inl rfl) rfl q747 d_M_count_153 ?_
    cases hf
    refine r_widen (kc2 := rm_M_count.cells) (ks2 := rm_M_count.slots) (Nat.le_of_ble_eq_true rfl) (Nat.le_of_ble_eq_true rfl) ?_
    exact r_iret X hret hlk d_M_count_156
  have hf := (if_neg hc54).symm.trans hf
  by_cases hc57 : v1 = 12
  · have hf := (if_pos hc57).symm.trans hf
    refine r_tableIn (tgt := 157) (off := 151) X d_M_count_6 (by rw [hc57]; decide) (by rw [hc57]; decide) (by rw [hc57]; decide) (by decide) ?_
    refine r_aload_n X d_M_count_157 rfl 0 rfl ?_
    obtain ⟨x58, h59, hf⟩ := obind hf
    refine r_ld_I (ci := 11) (k := 44) X h59 (Nat.le_of_ble_eq_true rfl) (Nat.le_of_ble_eq_true rfl) (Or.inl rfl) rfl q748 d_M_count_158 ?_
    cases hf
    refine r_widen (kc2 := rm_M_count.cells) (ks2 := rm_M_count.slots) (Nat.le_of_ble_eq_true rfl) (Nat.le_of_ble_eq_true rfl) ?_
    exact r_iret X hret hlk d_M_count_161
  have hf := (if_neg hc57).symm.trans hf
  by_cases hc60 : v1 = 13
  · have hf := (if_pos hc60).symm.trans hf
    refine r_tableIn (tgt := 162) (off := 156) X d_M_count_6 (by rw [hc60]; decide) (by rw [hc60]; decide) (by rw [hc60]; decide) (by decide) ?_
    refine r_aload_n X d_M_count_162 rfl 0 rfl ?_
    obtain ⟨x61, h62, hf⟩ := obind hf
    refine r_ld_R (ci := 11) (k := 24) X h62 (Nat.le_of_ble_eq_true rfl) (Nat.le_of_ble_eq_true rfl) rfl rfl q728 d_M_count_163 ?_
    refine r_iconst (v := 0) X d_M_count_166 (by decide) ?_
    obtain ⟨x63, h64, hf⟩ := obind hf
    refine r_al_I X h64 d_M_count_167 ?_
    refine r_aload_n X d_M_count_168 rfl 0 rfl ?_
    obtain ⟨x65, h66, hf⟩ := obind hf
    refine r_ld_R (ci := 11) (k := 24) X h66 (Nat.le_of_ble_eq_true rfl) (Nat.le_of_ble_eq_true rfl) rfl rfl q728 d_M_count_169 ?_
    refine r_iconst (v := 1) X d_M_count_172 (by decide) ?_
    obtain ⟨x67, h68, hf⟩ := obind hf
    refine r_al_I X h68 d_M_count_173 ?_
    refine r_iadd X d_M_count_174 ?_
    cases hf
    refine r_widen (kc2 := rm_M_count.cells) (ks2 := rm_M_count.slots) (Nat.le_of_ble_eq_true rfl) (Nat.le_of_ble_eq_true rfl) ?_
    exact r_iret X hret hlk d_M_count_175
  have hf := (if_neg hc60).symm.trans hf
  by_cases hc69 : v1 = 14
  · have hf := (if_pos hc69).symm.trans hf
    refine r_tableIn (tgt := 176) (off := 170) X d_M_count_6 (by rw [hc69]; decide) (by rw [hc69]; decide) (by rw [hc69]; decide) (by decide) ?_
    refine r_aload_n X d_M_count_176 rfl 0 rfl ?_
    obtain ⟨x70, h71, hf⟩ := obind hf
    refine r_ld_I (ci := 11) (k := 27) X h71 (Nat.le_of_ble_eq_true rfl) (Nat.le_of_ble_eq_true rfl) (Or.inl rfl) rfl q731 d_M_count_177 ?_
    cases hf
    refine r_widen (kc2 := rm_M_count.cells) (ks2 := rm_M_count.slots) (Nat.le_of_ble_eq_true rfl) (Nat.le_of_ble_eq_true rfl) ?_
    exact r_iret X hret hlk d_M_count_180
  have hf := (if_neg hc69).symm.trans hf
  by_cases hc72 : v1 = 15
  · have hf := (if_pos hc72).symm.trans hf
    refine r_tableIn (tgt := 181) (off := 175) X d_M_count_6 (by rw [hc72]; decide) (by rw [hc72]; decide) (by rw [hc72]; decide) (by decide) ?_
    refine r_aload_n X d_M_count_181 rfl 0 rfl ?_
    obtain ⟨x73, h74, hf⟩ := obind hf
    refine r_ld_I (ci := 11) (k := 29) X h74 (Nat.le_of_ble_eq_true rfl) (Nat.le_of_ble_eq_true rfl) (Or.inl rfl) rfl q733 d_M_count_182 ?_
    cases hf
    refine r_widen (kc2 := rm_M_count.cells) (ks2 := rm_M_count.slots) (Nat.le_of_ble_eq_true rfl) (Nat.le_of_ble_eq_true rfl) ?_
    exact r_iret X hret hlk d_M_count_185
  have hf := (if_neg hc72).symm.trans hf
  by_cases hc75 : v1 = 16
  · have hf := (if_pos hc75).symm.trans hf
    refine r_tableIn (tgt := 186) (off := 180) X d_M_count_6 (by rw [hc75]; decide) (by rw [hc75]; decide) (by rw [hc75]; decide) (by decide) ?_
    refine r_aload_n X d_M_count_186 rfl 0 rfl ?_
    obtain ⟨x76, h77, hf⟩ := obind hf
    refine r_ld_I (ci := 11) (k := 28) X h77 (Nat.le_of_ble_eq_true rfl) (Nat.le_of_ble_eq_true rfl) (Or.inl rfl) rfl q732 d_M_count_187 ?_
    cases hf
    refine r_widen (kc2 := rm_M_count.cells) (ks2 := rm_M_count.slots) (Nat.le_of_ble_eq_true rfl) (Nat.le_of_ble_eq_true rfl) ?_
    exact r_iret X hret hlk d_M_count_190
  have hf := (if_neg hc75).symm.trans hf
  by_cases hc78 : v1 = 17
  · have hf := (if_pos hc78).symm.trans hf
    refine r_tableIn (tgt := 191) (off := 185) X d_M_count_6 (by rw [hc78]; decide) (by rw [hc78]; decide) (by rw [hc78]; decide) (by decide) ?_
    refine r_aload_n X d_M_count_191 rfl 0 rfl ?_
    obtain ⟨x80, h79, hf⟩ := obind hf
    obtain ⟨x83, σ82, h81, hf⟩ := pbind hf
    refine r_callV (st := []) X [] (ci := 11) h79 (Nat.le_of_ble_eq_true rfl) q1017 q1019 sl45 (c_M_onWay n v0 h81) q1020 q11 y_M_onWay_ok rfl ⟨Nat.le_of_ble_eq_true rfl, Nat.le_of_ble_eq_true rfl⟩ (Nat.le_of_ble_eq_true rfl) ⟨Nat.le_of_ble_eq_true rfl, Nat.le_of_ble_eq_true rfl⟩ d_M_count_192 ?_
    cases hf
    refine r_widen (kc2 := rm_M_count.cells) (ks2 := rm_M_count.slots) (Nat.le_of_ble_eq_true rfl) (Nat.le_of_ble_eq_true rfl) ?_
    exact r_iret X hret hlk d_M_count_195
  have hf := (if_neg hc78).symm.trans hf
  refine r_tableOut (tgt := 196) X d_M_count_6 (sw_out 17 [0, 1, 2, 3, 4, 5, 6, 7, 8, 9, 10, 11, 12, 13, 14, 15, 16, 17] rfl (List.forall_mem_cons.mpr ⟨hc3, List.forall_mem_cons.mpr ⟨hc9, List.forall_mem_cons.mpr ⟨hc15, List.forall_mem_cons.mpr ⟨hc21, List.forall_mem_cons.mpr ⟨hc27, List.forall_mem_cons.mpr ⟨hc33, List.forall_mem_cons.mpr ⟨hc39, List.forall_mem_cons.mpr ⟨hc42, List.forall_mem_cons.mpr ⟨hc45, List.forall_mem_cons.mpr ⟨hc48, List.forall_mem_cons.mpr ⟨hc51, List.forall_mem_cons.mpr ⟨hc54, List.forall_mem_cons.mpr ⟨hc57, List.forall_mem_cons.mpr ⟨hc60, List.forall_mem_cons.mpr ⟨hc69, List.forall_mem_cons.mpr ⟨hc72, List.forall_mem_cons.mpr ⟨hc75, List.forall_mem_cons.mpr ⟨hc78, fun _ h => absurd h List.not_mem_nil⟩⟩⟩⟩⟩⟩⟩⟩⟩⟩⟩⟩⟩⟩⟩⟩⟩⟩)) (by decide) ?_
  refine r_iconst (v := -1) X d_M_count_196 (by decide) ?_
  cases hf
  refine r_widen (kc2 := rm_M_count.cells) (ks2 := rm_M_count.slots) (Nat.le_of_ble_eq_true rfl) (Nat.le_of_ble_eq_true rfl) ?_
  exact r_iret X hret hlk d_M_count_197

def f_M_often (n : Nat) (v0 : Option Nat) (v1 : Int32) (σ : Hp) : Option (Int32 × Hp) :=
  Option.bind (st_I σ v0 11 0 0) fun σ1 =>
  pb (f_M_isKey v1 σ1) fun x5 σ4 =>
  if x5 = 0 then
  (
    some ((-1), σ4))
  else
  (
    Option.bind (is_O σ4 v0 11) fun x8 =>
    pb (f_M_often0 n v0 v1 σ4) fun x11 σ10 =>
    some (x11, σ10))
set_option maxRecDepth 100000 in
theorem c_M_often {l : Launch} {DD : DT} (n : Nat) (v0 : Option Nat) (v1 : Int32) {σ0 σz : Hp} {rz : Int32} (hf : f_M_often n v0 v1 σ0 = some (rz, σz)) : CT l DD y_M_often prog_13_method_44_code 2 (some .int) rm_M_often [tR v0, tI v1] σ0 (some (tI rz)) σz := by
  refine r_met (by decide) (Nat.le_of_ble_eq_true rfl) ?_
  intro p e s m args below meth c X hret hlk hnm
  unfold f_M_often at hf
  refine r_aload_n X d_M_often_0 rfl 0 rfl ?_
  refine r_iconst (v := 0) X d_M_often_1 (by decide) ?_
  obtain ⟨σ1, h2, hf⟩ := obind hf
  refine r_st_I (ci := 11) (k := 0) X h2 (Nat.le_of_ble_eq_true rfl) (Nat.le_of_ble_eq_true rfl) rfl rfl rfl q704 d_M_often_2 ?_
  refine r_iload_n X d_M_often_5 rfl 1 rfl ?_
  obtain ⟨x5, σ4, h3, hf⟩ := pbind hf
  refine r_callS (st := []) X [tI v1] q862 q863 (c_M_isKey v1 h3) q864 q11 y_M_isKey_ok rfl ⟨Nat.le_of_ble_eq_true rfl, Nat.le_of_ble_eq_true rfl⟩ (Nat.le_of_ble_eq_true rfl) ⟨Nat.le_of_ble_eq_true rfl, Nat.le_of_ble_eq_true rfl⟩ d_M_often_6 ?_
  refine r_if_eq (tgt := 20) X d_M_often_9 (by decide) (fun hc6 => ?_) (fun hc6 => ?_)
  · have hf := (if_pos hc6).symm.trans hf
    refine r_iconst (v := -1) X d_M_often_20 (by decide) ?_
    cases hf
    refine r_widen (kc2 := rm_M_often.cells) (ks2 := rm_M_often.slots) (Nat.le_of_ble_eq_true rfl) (Nat.le_of_ble_eq_true rfl) ?_
    exact r_iret X hret hlk d_M_often_21
  · have hf := (if_neg hc6).symm.trans hf
    refine r_aload_n X d_M_often_12 rfl 0 rfl ?_
    refine r_iload_n X d_M_often_13 rfl 1 rfl ?_
    obtain ⟨x8, h7, hf⟩ := obind hf
    obtain ⟨x11, σ10, h9, hf⟩ := pbind hf
    refine r_callV (st := []) X [tI v1] (ci := 11) h7 (Nat.le_of_ble_eq_true rfl) q962 q964 sl40 (c_M_often0 n v0 v1 h9) q965 q11 y_M_often0_ok rfl ⟨Nat.le_of_ble_eq_true rfl, Nat.le_of_ble_eq_true rfl⟩ (Nat.le_of_ble_eq_true rfl) ⟨Nat.le_of_ble_eq_true rfl, Nat.le_of_ble_eq_true rfl⟩ d_M_often_14 ?_
    refine r_goto (tgt := 21) X d_M_often_17 (by decide) ?_
    cases hf
    refine r_widen (kc2 := rm_M_often.cells) (ks2 := rm_M_often.slots) (Nat.le_of_ble_eq_true rfl) (Nat.le_of_ble_eq_true rfl) ?_
    exact r_iret X hret hlk d_M_often_21

def f_M_at_119 (n : Nat) (rec22 : Option Nat → Int32 → Int32 → Int32 → Hp → Option (Int32 × Hp)) (v0 : Option Nat) (v1 : Int32) (v2 : Int32) (v3 : Int32) (σ : Hp) : Option (Int32 × Hp) :=
  rec22 v0 v1 v2 (v3 + 1) σ
set_option maxRecDepth 100000 in
theorem b_M_at_119 {p : Program} {l : Launch} {e : Env} {s : State} {m : MethodId} {args : Array Value} {below : List Frame} {meth : Method} {c : Code} {DD : DT} {σ0 σz : Hp} {rz : Int32} (X : CX p s m args c prog_13_method_45_code 6 (dm σ0) DD y_M_at.cls) (hret : meth.sig.returnType = some .int) (hlk : meth.locks = false) (hnm : meth.name = y_M_at.name) (n : Nat) (rec22 : Option Nat → Int32 → Int32 → Int32 → Hp → Option (Int32 × Hp)) (hrec22 : ∀ (v0 : Option Nat) (v1 : Int32) (v2 : Int32) (v3 : Int32) (σ : Hp), rec22 v0 v1 v2 v3 σ = some (rz, σz) → GG p l e rm_M_at s m args below meth c 6 (dm σ0) DD (MQ below (Post DD σ0 (some (tI rz)) σz) args s rm_M_at.cells rm_M_at.slots (dm σ0)) 0 0 σ 22 [(0, tR v0), (1, tI v1), (2, tI v2), (3, tI v3)] []) (v0 : Option Nat) (v1 : Int32) (v2 : Int32) (v3 : Int32) (σ : Hp) (hf : f_M_at_119 n rec22 v0 v1 v2 v3 σ = some (rz, σz)) : GG p l e rm_M_at s m args below meth c 6 (dm σ0) DD (MQ below (Post DD σ0 (some (tI rz)) σz) args s rm_M_at.cells rm_M_at.slots (dm σ0)) 0 0 σ 119 [(0, tR v0), (1, tI v1), (2, tI v2), (3, tI v3)] [] := by
  unfold f_M_at_119 at hf
  refine r_iinc (lv' := [(0, tR v0), (1, tI v1), (2, tI v2), (3, tI (v3 + 1))]) (j := 3) X [1, 2, 3, 0] d_M_at_119 rfl rfl (Nat.le_of_ble_eq_true rfl) rfl ?_
  refine r_goto (tgt := 22) X d_M_at_122 (by decide) ?_
  refine r_widen (kc2 := 0) (ks2 := 0) (Nat.le_of_ble_eq_true rfl) (Nat.le_of_ble_eq_true rfl) ?_
  refine r_sub [0, 1, 2, 3] (lv' := [(0, tR v0), (1, tI v1), (2, tI v2), (3, tI (v3 + 1))]) rfl ?_
  exact hrec22 v0 v1 v2 (v3 + 1) σ hf

def f_M_at_97 (n : Nat) (rec22 : Option Nat → Int32 → Int32 → Int32 → Hp → Option (Int32 × Hp)) (rec51 : Option Nat → Int32 → Int32 → Int32 → Int32 → Int32 → Hp → Option (Int32 × Hp)) (v0 : Option Nat) (v1 : Int32) (v2 : Int32) (v3 : Int32) (v5 : Int32) (w0 : Int32) (w1 : Int32) (σ : Hp) : Option (Int32 × Hp) :=
  rec51 v0 v1 v2 v3 (w1 + w0) (v5 + 1) σ
set_option maxRecDepth 100000 in
theorem b_M_at_97 {p : Program} {l : Launch} {e : Env} {s : State} {m : MethodId} {args : Array Value} {below : List Frame} {meth : Method} {c : Code} {DD : DT} {σ0 σz : Hp} {rz : Int32} (X : CX p s m args c prog_13_method_45_code 6 (dm σ0) DD y_M_at.cls) (hret : meth.sig.returnType = some .int) (hlk : meth.locks = false) (hnm : meth.name = y_M_at.name) (n : Nat) (rec22 : Option Nat → Int32 → Int32 → Int32 → Hp → Option (Int32 × Hp)) (rec51 : Option Nat → Int32 → Int32 → Int32 → Int32 → Int32 → Hp → Option (Int32 × Hp)) (hrec22 : ∀ (v0 : Option Nat) (v1 : Int32) (v2 : Int32) (v3 : Int32) (σ : Hp), rec22 v0 v1 v2 v3 σ = some (rz, σz) → GG p l e rm_M_at s m args below meth c 6 (dm σ0) DD (MQ below (Post DD σ0 (some (tI rz)) σz) args s rm_M_at.cells rm_M_at.slots (dm σ0)) 0 0 σ 22 [(0, tR v0), (1, tI v1), (2, tI v2), (3, tI v3)] []) (hrec51 : ∀ (v0 : Option Nat) (v1 : Int32) (v2 : Int32) (v3 : Int32) (v4 : Int32) (v5 : Int32) (σ : Hp), rec51 v0 v1 v2 v3 v4 v5 σ = some (rz, σz) → GG p l e rm_M_at s m args below meth c 6 (dm σ0) DD (MQ below (Post DD σ0 (some (tI rz)) σz) args s rm_M_at.cells rm_M_at.slots (dm σ0)) 0 0 σ 51 [(0, tR v0), (1, tI v1), (2, tI v2), (3, tI v3), (4, tI v4), (5, tI v5)] []) (v0 : Option Nat) (v1 : Int32) (v2 : Int32) (v3 : Int32) (v5 : Int32) (w0 : Int32) (w1 : Int32) (σ : Hp) (hf : f_M_at_97 n rec22 rec51 v0 v1 v2 v3 v5 w0 w1 σ = some (rz, σz)) : GG p l e rm_M_at s m args below meth c 6 (dm σ0) DD (MQ below (Post DD σ0 (some (tI rz)) σz) args s rm_M_at.cells rm_M_at.slots (dm σ0)) 0 0 σ 97 [(0, tR v0), (1, tI v1), (2, tI v2), (3, tI v3), (5, tI v5)] [tI w0, tI w1] := by
  unfold f_M_at_97 at hf
  refine r_iadd X d_M_at_97 ?_
  refine r_istore (lv' := [(0, tR v0), (1, tI v1), (2, tI v2), (3, tI v3), (4, tI (w1 + w0)), (5, tI v5)]) X [1, 2, 3, 4, 0, 5] d_M_at_98 (Nat.le_of_ble_eq_true rfl) rfl ?_
  refine r_iinc (lv' := [(0, tR v0), (1, tI v1), (2, tI v2), (3, tI v3), (4, tI (w1 + w0)), (5, tI (v5 + 1))]) (j := 5) X [1, 2, 3, 4, 5, 0] d_M_at_100 rfl rfl (Nat.le_of_ble_eq_true rfl) rfl ?_
  refine r_goto (tgt := 51) X d_M_at_103 (by decide) ?_
  refine r_widen (kc2 := 0) (ks2 := 0) (Nat.le_of_ble_eq_true rfl) (Nat.le_of_ble_eq_true rfl) ?_
  refine r_sub [0, 1, 2, 3, 4, 5] (lv' := [(0, tR v0), (1, tI v1), (2, tI v2), (3, tI v3), (4, tI (w1 + w0)), (5, tI (v5 + 1))]) rfl ?_
  exact hrec51 v0 v1 v2 v3 (w1 + w0) (v5 + 1) σ hf

def f_M_at_96 (n : Nat) (rec22 : Option Nat → Int32 → Int32 → Int32 → Hp → Option (Int32 × Hp)) (rec51 : Option Nat → Int32 → Int32 → Int32 → Int32 → Int32 → Hp → Option (Int32 × Hp)) (v0 : Option Nat) (v1 : Int32) (v2 : Int32) (v3 : Int32) (v5 : Int32) (w0 : Int32) (σ : Hp) : Option (Int32 × Hp) :=
  f_M_at_97 n rec22 rec51 v0 v1 v2 v3 v5 0 w0 σ
set_option maxRecDepth 100000 in
theorem b_M_at_96 {p : Program} {l : Launch} {e : Env} {s : State} {m : MethodId} {args : Array Value} {below : List Frame} {meth : Method} {c : Code} {DD : DT} {σ0 σz : Hp} {rz : Int32} (X : CX p s m args c prog_13_method_45_code 6 (dm σ0) DD y_M_at.cls) (hret : meth.sig.returnType = some .int) (hlk : meth.locks = false) (hnm : meth.name = y_M_at.name) (n : Nat) (rec22 : Option Nat → Int32 → Int32 → Int32 → Hp → Option (Int32 × Hp)) (rec51 : Option Nat → Int32 → Int32 → Int32 → Int32 → Int32 → Hp → Option (Int32 × Hp)) (hrec22 : ∀ (v0 : Option Nat) (v1 : Int32) (v2 : Int32) (v3 : Int32) (σ : Hp), rec22 v0 v1 v2 v3 σ = some (rz, σz) → GG p l e rm_M_at s m args below meth c 6 (dm σ0) DD (MQ below (Post DD σ0 (some (tI rz)) σz) args s rm_M_at.cells rm_M_at.slots (dm σ0)) 0 0 σ 22 [(0, tR v0), (1, tI v1), (2, tI v2), (3, tI v3)] []) (hrec51 : ∀ (v0 : Option Nat) (v1 : Int32) (v2 : Int32) (v3 : Int32) (v4 : Int32) (v5 : Int32) (σ : Hp), rec51 v0 v1 v2 v3 v4 v5 σ = some (rz, σz) → GG p l e rm_M_at s m args below meth c 6 (dm σ0) DD (MQ below (Post DD σ0 (some (tI rz)) σz) args s rm_M_at.cells rm_M_at.slots (dm σ0)) 0 0 σ 51 [(0, tR v0), (1, tI v1), (2, tI v2), (3, tI v3), (4, tI v4), (5, tI v5)] []) (v0 : Option Nat) (v1 : Int32) (v2 : Int32) (v3 : Int32) (v5 : Int32) (w0 : Int32) (σ : Hp) (hf : f_M_at_96 n rec22 rec51 v0 v1 v2 v3 v5 w0 σ = some (rz, σz)) : GG p l e rm_M_at s m args below meth c 6 (dm σ0) DD (MQ below (Post DD σ0 (some (tI rz)) σz) args s rm_M_at.cells rm_M_at.slots (dm σ0)) 0 0 σ 96 [(0, tR v0), (1, tI v1), (2, tI v2), (3, tI v3), (5, tI v5)] [tI w0] := by
  unfold f_M_at_96 at hf
  refine r_iconst (v := 0) X d_M_at_96 (by decide) ?_
  refine r_widen (kc2 := 0) (ks2 := 0) (Nat.le_of_ble_eq_true rfl) (Nat.le_of_ble_eq_true rfl) ?_
  refine r_sub [0, 1, 2, 3, 4] (lv' := [(0, tR v0), (1, tI v1), (2, tI v2), (3, tI v3), (5, tI v5)]) rfl ?_
  exact b_M_at_97 X hret hlk hnm n rec22 rec51 hrec22 hrec51 v0 v1 v2 v3 v5 0 w0 σ hf

def f_M_at_51 (n : Nat) (rec22 : Option Nat → Int32 → Int32 → Int32 → Hp → Option (Int32 × Hp)) : Nat → Option Nat → Int32 → Int32 → Int32 → Int32 → Int32 → Hp → Option (Int32 × Hp)
  | 0, _, _, _, _, _, _, _ => none
  | i + 1, v0, v1, v2, v3, v4, v5, σ =>
    Option.bind (ld_I σ v0 11 10) fun x14 =>
    if x14 ≤ v5 then
    (
      if v4 = v2 then
      (
        Option.bind (ld_R σ v0 11 11) fun x18 =>
        Option.bind (al_I σ 0 x18 v3) fun x20 =>
        some (x20, σ))
      else
      (
        f_M_at_119 n rec22 v0 v1 v2 v3 σ))
    else
    (
      Option.bind (ld_R σ v0 11 15) fun x22 =>
      Option.bind (al_I σ 0 x22 v5) fun x24 =>
      if x24 = (v1 + 1) then
      (
        Option.bind (ld_R σ v0 11 19) fun x27 =>
        Option.bind (al_L σ 1 x27 v5) fun x29 =>
        Option.bind (ld_R σ v0 11 19) fun x31 =>
        Option.bind (al_L σ 1 x31 v3) fun x33 =>
        if 0 ≤ (lg_cmp x29 x33) then
        (
          f_M_at_96 n rec22 (f_M_at_51 n rec22 i) v0 v1 v2 v3 v5 v4 σ)
        else
        (
          f_M_at_97 n rec22 (f_M_at_51 n rec22 i) v0 v1 v2 v3 v5 1 v4 σ))
      else
      (
        f_M_at_96 n rec22 (f_M_at_51 n rec22 i) v0 v1 v2 v3 v5 v4 σ))
set_option maxRecDepth 100000 in
theorem b_M_at_51 {p : Program} {l : Launch} {e : Env} {s : State} {m : MethodId} {args : Array Value} {below : List Frame} {meth : Method} {c : Code} {DD : DT} {σ0 σz : Hp} {rz : Int32} (X : CX p s m args c prog_13_method_45_code 6 (dm σ0) DD y_M_at.cls) (hret : meth.sig.returnType = some .int) (hlk : meth.locks = false) (hnm : meth.name = y_M_at.name) (n : Nat) (rec22 : Option Nat → Int32 → Int32 → Int32 → Hp → Option (Int32 × Hp)) (hrec22 : ∀ (v0 : Option Nat) (v1 : Int32) (v2 : Int32) (v3 : Int32) (σ : Hp), rec22 v0 v1 v2 v3 σ = some (rz, σz) → GG p l e rm_M_at s m args below meth c 6 (dm σ0) DD (MQ below (Post DD σ0 (some (tI rz)) σz) args s rm_M_at.cells rm_M_at.slots (dm σ0)) 0 0 σ 22 [(0, tR v0), (1, tI v1), (2, tI v2), (3, tI v3)] []) : ∀ (i : Nat) (v0 : Option Nat) (v1 : Int32) (v2 : Int32) (v3 : Int32) (v4 : Int32) (v5 : Int32) (σ : Hp) (hf : f_M_at_51 n rec22 i v0 v1 v2 v3 v4 v5 σ = some (rz, σz)), GG p l e rm_M_at s m args below meth c 6 (dm σ0) DD (MQ below (Post DD σ0 (some (tI rz)) σz) args s rm_M_at.cells rm_M_at.slots (dm σ0)) 0 0 σ 51 [(0, tR v0), (1, tI v1), (2, tI v2), (3, tI v3), (4, tI v4), (5, tI v5)] [] := by
  intro i
  induction i with
  | zero => intro v0 v1 v2 v3 v4 v5 σ hf; cases hf
  | succ i ih =>
    intro v0 v1 v2 v3 v4 v5 σ hf
    simp only [f_M_at_51] at hf
    refine r_iload X d_M_at_51 5 rfl ?_
    refine r_aload_n X d_M_at_53 rfl 0 rfl ?_
    obtain ⟨x14, h15, hf⟩ := obind hf
    refine r_ld_I (ci := 11) (k := 10) X h15 (Nat.le_of_ble_eq_true rfl) (Nat.le_of_ble_eq_true rfl) (Or.inl rfl) rfl q714 d_M_at_54 ?_
    refine r_icmp_ge (tgt := 106) X d_M_at_57 (by decide) (fun hc16 => ?_) (fun hc16 => ?_)
    · have hf := (if_pos hc16).symm.trans hf
      refine r_iload X d_M_at_106 4 rfl ?_
      refine r_iload_n X d_M_at_108 rfl 2 rfl ?_
      refine r_icmp_ne (tgt := 119) X d_M_at_109 (by decide) (fun hc17 => ?_) (fun hc17 => ?_)
      · have hf := (if_neg hc17).symm.trans hf
        refine r_widen (kc2 := 0) (ks2 := 0) (Nat.le_of_ble_eq_true rfl) (Nat.le_of_ble_eq_true rfl) ?_
        refine r_sub [0, 1, 2, 3] (lv' := [(0, tR v0), (1, tI v1), (2, tI v2), (3, tI v3)]) rfl ?_
        exact b_M_at_119 X hret hlk hnm n rec22 hrec22 v0 v1 v2 v3 σ hf
      · have hf := (if_pos hc17).symm.trans hf
        refine r_aload_n X d_M_at_112 rfl 0 rfl ?_
        obtain ⟨x18, h19, hf⟩ := obind hf
        refine r_ld_R (ci := 11) (k := 11) X h19 (Nat.le_of_ble_eq_true rfl) (Nat.le_of_ble_eq_true rfl) rfl rfl q715 d_M_at_113 ?_
        refine r_iload_n X d_M_at_116 rfl 3 rfl ?_
        obtain ⟨x20, h21, hf⟩ := obind hf
        refine r_al_I X h21 d_M_at_117 ?_
        cases hf
        refine r_widen (kc2 := rm_M_at.cells) (ks2 := rm_M_at.slots) (Nat.le_of_ble_eq_true rfl) (Nat.le_of_ble_eq_true rfl) ?_
        exact r_iret X hret hlk d_M_at_118
    · have hf := (if_neg hc16).symm.trans hf
      refine r_iload X d_M_at_60 4 rfl ?_
      refine r_aload_n X d_M_at_62 rfl 0 rfl ?_
      obtain ⟨x22, h23, hf⟩ := obind hf
      refine r_ld_R (ci := 11) (k := 15) X h23 (Nat.le_of_ble_eq_true rfl) (Nat.le_of_ble_eq_true rfl) rfl rfl q719 d_M_at_63 ?_
      refine r_iload X d_M_at_66 5 rfl ?_
      obtain ⟨x24, h25, hf⟩ := obind hf
      refine r_al_I X h25 d_M_at_68 ?_
      refine r_iload_n X d_M_at_69 rfl 1 rfl ?_
      refine r_iconst (v := 1) X d_M_at_70 (by decide) ?_
      refine r_iadd X d_M_at_71 ?_
      refine r_icmp_ne (tgt := 96) X d_M_at_72 (by decide) (fun hc26 => ?_) (fun hc26 => ?_)
      · have hf := (if_neg hc26).symm.trans hf
        refine r_widen (kc2 := 0) (ks2 := 0) (Nat.le_of_ble_eq_true rfl) (Nat.le_of_ble_eq_true rfl) ?_
        refine r_sub [0, 1, 2, 3, 5] (lv' := [(0, tR v0), (1, tI v1), (2, tI v2), (3, tI v3), (5, tI v5)]) rfl ?_
        exact b_M_at_96 X hret hlk hnm n rec22 (f_M_at_51 n rec22 i) hrec22 ih v0 v1 v2 v3 v5 v4 σ hf
      · have hf := (if_pos hc26).symm.trans hf
        refine r_aload_n X d_M_at_75 rfl 0 rfl ?_
        obtain ⟨x27, h28, hf⟩ := obind hf
        refine r_ld_R (ci := 11) (k := 19) X h28 (Nat.le_of_ble_eq_true rfl) (Nat.le_of_ble_eq_true rfl) rfl rfl q723 d_M_at_76 ?_
        refine r_iload X d_M_at_79 5 rfl ?_
        obtain ⟨x29, h30, hf⟩ := obind hf
        refine r_al_L X h30 d_M_at_81 ?_
        refine r_aload_n X d_M_at_82 rfl 0 rfl ?_
        obtain ⟨x31, h32, hf⟩ := obind hf
        refine r_ld_R (ci := 11) (k := 19) X h32 (Nat.le_of_ble_eq_true rfl) (Nat.le_of_ble_eq_true rfl) rfl rfl q723 d_M_at_83 ?_
        refine r_iload_n X d_M_at_86 rfl 3 rfl ?_
        obtain ⟨x33, h34, hf⟩ := obind hf
        refine r_al_L X h34 d_M_at_87 ?_
        refine r_lcmp X d_M_at_88 ?_
        refine r_if_ge (tgt := 96) X d_M_at_89 (by decide) (fun hc35 => ?_) (fun hc35 => ?_)
        · have hf := (if_pos hc35).symm.trans hf
          refine r_widen (kc2 := 0) (ks2 := 0) (Nat.le_of_ble_eq_true rfl) (Nat.le_of_ble_eq_true rfl) ?_
          refine r_sub [0, 1, 2, 3, 5] (lv' := [(0, tR v0), (1, tI v1), (2, tI v2), (3, tI v3), (5, tI v5)]) rfl ?_
          exact b_M_at_96 X hret hlk hnm n rec22 (f_M_at_51 n rec22 i) hrec22 ih v0 v1 v2 v3 v5 v4 σ hf
        · have hf := (if_neg hc35).symm.trans hf
          refine r_iconst (v := 1) X d_M_at_92 (by decide) ?_
          refine r_goto (tgt := 97) X d_M_at_93 (by decide) ?_
          refine r_widen (kc2 := 0) (ks2 := 0) (Nat.le_of_ble_eq_true rfl) (Nat.le_of_ble_eq_true rfl) ?_
          refine r_sub [0, 1, 2, 3, 5] (lv' := [(0, tR v0), (1, tI v1), (2, tI v2), (3, tI v3), (5, tI v5)]) rfl ?_
          exact b_M_at_97 X hret hlk hnm n rec22 (f_M_at_51 n rec22 i) hrec22 ih v0 v1 v2 v3 v5 1 v4 σ hf

def f_M_at_22 (n : Nat)  : Nat → Option Nat → Int32 → Int32 → Int32 → Hp → Option (Int32 × Hp)
  | 0, _, _, _, _, _ => none
  | i + 1, v0, v1, v2, v3, σ =>
    Option.bind (ld_I σ v0 11 10) fun x6 =>
    if x6 ≤ v3 then
    (
      some ((-1), σ))
    else
    (
      Option.bind (ld_R σ v0 11 15) fun x9 =>
      Option.bind (al_I σ 0 x9 v3) fun x11 =>
      if x11 = (v1 + 1) then
      (
        f_M_at_51 n (f_M_at_22 n i) n v0 v1 v2 v3 0 0 σ)
      else
      (
        f_M_at_119 n (f_M_at_22 n i) v0 v1 v2 v3 σ))
set_option maxRecDepth 100000 in
theorem b_M_at_22 {p : Program} {l : Launch} {e : Env} {s : State} {m : MethodId} {args : Array Value} {below : List Frame} {meth : Method} {c : Code} {DD : DT} {σ0 σz : Hp} {rz : Int32} (X : CX p s m args c prog_13_method_45_code 6 (dm σ0) DD y_M_at.cls) (hret : meth.sig.returnType = some .int) (hlk : meth.locks = false) (hnm : meth.name = y_M_at.name) (n : Nat)   : ∀ (i : Nat) (v0 : Option Nat) (v1 : Int32) (v2 : Int32) (v3 : Int32) (σ : Hp) (hf : f_M_at_22 n  i v0 v1 v2 v3 σ = some (rz, σz)), GG p l e rm_M_at s m args below meth c 6 (dm σ0) DD (MQ below (Post DD σ0 (some (tI rz)) σz) args s rm_M_at.cells rm_M_at.slots (dm σ0)) 0 0 σ 22 [(0, tR v0), (1, tI v1), (2, tI v2), (3, tI v3)] [] := by
  intro i
  induction i with
  | zero => intro v0 v1 v2 v3 σ hf; cases hf
  | succ i ih =>
    intro v0 v1 v2 v3 σ hf
    simp only [f_M_at_22] at hf
    refine r_iload_n X d_M_at_22 rfl 3 rfl ?_
    refine r_aload_n X d_M_at_23 rfl 0 rfl ?_
    obtain ⟨x6, h7, hf⟩ := obind hf
    refine r_ld_I (ci := 11) (k := 10) X h7 (Nat.le_of_ble_eq_true rfl) (Nat.le_of_ble_eq_true rfl) (Or.inl rfl) rfl q714 d_M_at_24 ?_
    refine r_icmp_ge (tgt := 125) X d_M_at_27 (by decide) (fun hc8 => ?_) (fun hc8 => ?_)
    · have hf := (if_pos hc8).symm.trans hf
      refine r_iconst (v := -1) X d_M_at_125 (by decide) ?_
      cases hf
      refine r_widen (kc2 := rm_M_at.cells) (ks2 := rm_M_at.slots) (Nat.le_of_ble_eq_true rfl) (Nat.le_of_ble_eq_true rfl) ?_
      exact r_iret X hret hlk d_M_at_126
    · have hf := (if_neg hc8).symm.trans hf
      refine r_aload_n X d_M_at_30 rfl 0 rfl ?_
      obtain ⟨x9, h10, hf⟩ := obind hf
      refine r_ld_R (ci := 11) (k := 15) X h10 (Nat.le_of_ble_eq_true rfl) (Nat.le_of_ble_eq_true rfl) rfl rfl q719 d_M_at_31 ?_
      refine r_iload_n X d_M_at_34 rfl 3 rfl ?_
      obtain ⟨x11, h12, hf⟩ := obind hf
      refine r_al_I X h12 d_M_at_35 ?_
      refine r_iload_n X d_M_at_36 rfl 1 rfl ?_
      refine r_iconst (v := 1) X d_M_at_37 (by decide) ?_
      refine r_iadd X d_M_at_38 ?_
      refine r_icmp_eq (tgt := 45) X d_M_at_39 (by decide) (fun hc13 => ?_) (fun hc13 => ?_)
      · have hf := (if_pos hc13).symm.trans hf
        refine r_iconst (v := 0) X d_M_at_45 (by decide) ?_
        refine r_istore (lv' := [(0, tR v0), (1, tI v1), (2, tI v2), (3, tI v3), (4, tI 0)]) X [1, 2, 3, 4, 0] d_M_at_46 (Nat.le_of_ble_eq_true rfl) rfl ?_
        refine r_iconst (v := 0) X d_M_at_48 (by decide) ?_
        refine r_istore (lv' := [(0, tR v0), (1, tI v1), (2, tI v2), (3, tI v3), (4, tI 0), (5, tI 0)]) X [1, 2, 3, 4, 5, 0] d_M_at_49 (Nat.le_of_ble_eq_true rfl) rfl ?_
        refine r_widen (kc2 := 0) (ks2 := 0) (Nat.le_of_ble_eq_true rfl) (Nat.le_of_ble_eq_true rfl) ?_
        refine r_sub [0, 1, 2, 3, 4, 5] (lv' := [(0, tR v0), (1, tI v1), (2, tI v2), (3, tI v3), (4, tI 0), (5, tI 0)]) rfl ?_
        exact b_M_at_51 X hret hlk hnm n (f_M_at_22 n i) ih n v0 v1 v2 v3 0 0 σ hf
      · have hf := (if_neg hc13).symm.trans hf
        refine r_goto (tgt := 119) X d_M_at_42 (by decide) ?_
        refine r_widen (kc2 := 0) (ks2 := 0) (Nat.le_of_ble_eq_true rfl) (Nat.le_of_ble_eq_true rfl) ?_
        refine r_sub [0, 1, 2, 3] (lv' := [(0, tR v0), (1, tI v1), (2, tI v2), (3, tI v3)]) rfl ?_
        exact b_M_at_119 X hret hlk hnm n (f_M_at_22 n i) ih v0 v1 v2 v3 σ hf

def f_M_at (n : Nat) (v0 : Option Nat) (v1 : Int32) (v2 : Int32) (σ : Hp) : Option (Int32 × Hp) :=
  Option.bind (st_I σ v0 11 0 0) fun σ1 =>
  if v1 < 0 then
  (
    some ((-1), σ1))
  else
  (
    if 2 < v1 then
    (
      some ((-1), σ1))
    else
    (
      if 0 ≤ v2 then
      (
        f_M_at_22 n  n v0 v1 v2 0 σ1)
      else
      (
        some ((-1), σ1))))
set_option maxRecDepth 100000 in
theorem c_M_at {l : Launch} {DD : DT} (n : Nat) (v0 : Option Nat) (v1 : Int32) (v2 : Int32) {σ0 σz : Hp} {rz : Int32} (hf : f_M_at n v0 v1 v2 σ0 = some (rz, σz)) : CT l DD y_M_at prog_13_method_45_code 6 (some .int) rm_M_at [tR v0, tI v1, tI v2] σ0 (some (tI rz)) σz := by
  refine r_met (by decide) (Nat.le_of_ble_eq_true rfl) ?_
  intro p e s m args below meth c X hret hlk hnm
  unfold f_M_at at hf
  refine r_aload_n X d_M_at_0 rfl 0 rfl ?_
  refine r_iconst (v := 0) X d_M_at_1 (by decide) ?_
  obtain ⟨σ1, h2, hf⟩ := obind hf
  refine r_st_I (ci := 11) (k := 0) X h2 (Nat.le_of_ble_eq_true rfl) (Nat.le_of_ble_eq_true rfl) rfl rfl rfl q704 d_M_at_2 ?_
  refine r_iload_n X d_M_at_5 rfl 1 rfl ?_
  refine r_if_lt (tgt := 18) X d_M_at_6 (by decide) (fun hc3 => ?_) (fun hc3 => ?_)
  · have hf := (if_pos hc3).symm.trans hf
    refine r_iconst (v := -1) X d_M_at_18 (by decide) ?_
    cases hf
    refine r_widen (kc2 := rm_M_at.cells) (ks2 := rm_M_at.slots) (Nat.le_of_ble_eq_true rfl) (Nat.le_of_ble_eq_true rfl) ?_
    exact r_iret X hret hlk d_M_at_19
  · have hf := (if_neg hc3).symm.trans hf
    refine r_iload_n X d_M_at_9 rfl 1 rfl ?_
    refine r_iconst (v := 2) X d_M_at_10 (by decide) ?_
    refine r_icmp_gt (tgt := 18) X d_M_at_11 (by decide) (fun hc4 => ?_) (fun hc4 => ?_)
    · have hf := (if_pos hc4).symm.trans hf
      refine r_iconst (v := -1) X d_M_at_18 (by decide) ?_
      cases hf
      refine r_widen (kc2 := rm_M_at.cells) (ks2 := rm_M_at.slots) (Nat.le_of_ble_eq_true rfl) (Nat.le_of_ble_eq_true rfl) ?_
      exact r_iret X hret hlk d_M_at_19
    · have hf := (if_neg hc4).symm.trans hf
      refine r_iload_n X d_M_at_14 rfl 2 rfl ?_
      refine r_if_ge (tgt := 20) X d_M_at_15 (by decide) (fun hc5 => ?_) (fun hc5 => ?_)
      · have hf := (if_pos hc5).symm.trans hf
        refine r_iconst (v := 0) X d_M_at_20 (by decide) ?_
        refine r_istore_n (lv' := [(0, tR v0), (1, tI v1), (2, tI v2), (3, tI 0)]) X [1, 2, 3, 0] d_M_at_21 rfl (Nat.le_of_ble_eq_true rfl) rfl ?_
        refine r_widen (kc2 := 0) (ks2 := 0) (Nat.le_of_ble_eq_true rfl) (Nat.le_of_ble_eq_true rfl) ?_
        refine r_sub [0, 1, 2, 3] (lv' := [(0, tR v0), (1, tI v1), (2, tI v2), (3, tI 0)]) rfl ?_
        exact b_M_at_22 X hret hlk hnm n   n v0 v1 v2 0 σ1 hf
      · have hf := (if_neg hc5).symm.trans hf
        refine r_iconst (v := -1) X d_M_at_18 (by decide) ?_
        cases hf
        refine r_widen (kc2 := rm_M_at.cells) (ks2 := rm_M_at.slots) (Nat.le_of_ble_eq_true rfl) (Nat.le_of_ble_eq_true rfl) ?_
        exact r_iret X hret hlk d_M_at_19

def f_M_listened (v0 : Option Nat) (v1 : Int32) (v2 : Int32) (σ : Hp) : Option (Int32 × Hp) :=
  Option.bind (st_I σ v0 11 0 0) fun σ1 =>
  if v1 < 0 then
  (
    some ((-1), σ1))
  else
  (
    Option.bind (ld_I σ1 v0 11 45) fun x4 =>
    if v1 < x4 then
    (
      if v2 = 0 then
      (
        Option.bind (ld_R σ1 v0 11 46) fun x8 =>
        Option.bind (al_I σ1 0 x8 v1) fun x10 =>
        some (x10, σ1))
      else
      if v2 = 1 then
      (
        Option.bind (ld_R σ1 v0 11 47) fun x13 =>
        Option.bind (al_I σ1 0 x13 v1) fun x15 =>
        some (x15, σ1))
      else
      if v2 = 2 then
      (
        Option.bind (ld_R σ1 v0 11 48) fun x18 =>
        Option.bind (al_I σ1 0 x18 v1) fun x20 =>
        some (x20, σ1))
      else
      (
        some ((-1), σ1)))
    else
    (
      some ((-1), σ1)))
set_option maxRecDepth 100000 in
theorem c_M_listened {l : Launch} {DD : DT} (v0 : Option Nat) (v1 : Int32) (v2 : Int32) {σ0 σz : Hp} {rz : Int32} (hf : f_M_listened v0 v1 v2 σ0 = some (rz, σz)) : CT l DD y_M_listened prog_13_method_46_code 3 (some .int) rm_M_listened [tR v0, tI v1, tI v2] σ0 (some (tI rz)) σz := by
  refine r_met (by decide) (Nat.le_of_ble_eq_true rfl) ?_
  intro p e s m args below meth c X hret hlk hnm
  unfold f_M_listened at hf
  refine r_aload_n X d_M_listened_0 rfl 0 rfl ?_
  refine r_iconst (v := 0) X d_M_listened_1 (by decide) ?_
  obtain ⟨σ1, h2, hf⟩ := obind hf
  refine r_st_I (ci := 11) (k := 0) X h2 (Nat.le_of_ble_eq_true rfl) (Nat.le_of_ble_eq_true rfl) rfl rfl rfl q704 d_M_listened_2 ?_
  refine r_iload_n X d_M_listened_5 rfl 1 rfl ?_
  refine r_if_lt (tgt := 17) X d_M_listened_6 (by decide) (fun hc3 => ?_) (fun hc3 => ?_)
  · have hf := (if_pos hc3).symm.trans hf
    refine r_iconst (v := -1) X d_M_listened_17 (by decide) ?_
    cases hf
    refine r_widen (kc2 := rm_M_listened.cells) (ks2 := rm_M_listened.slots) (Nat.le_of_ble_eq_true rfl) (Nat.le_of_ble_eq_true rfl) ?_
    exact r_iret X hret hlk d_M_listened_18
  · have hf := (if_neg hc3).symm.trans hf
    refine r_iload_n X d_M_listened_9 rfl 1 rfl ?_
    refine r_aload_n X d_M_listened_10 rfl 0 rfl ?_
    obtain ⟨x4, h5, hf⟩ := obind hf
    refine r_ld_I (ci := 11) (k := 45) X h5 (Nat.le_of_ble_eq_true rfl) (Nat.le_of_ble_eq_true rfl) (Or.inl rfl) rfl q749 d_M_listened_11 ?_
    refine r_icmp_lt (tgt := 19) X d_M_listened_14 (by decide) (fun hc6 => ?_) (fun hc6 => ?_)
    · have hf := (if_pos hc6).symm.trans hf
      refine r_iload_n X d_M_listened_19 rfl 2 rfl ?_
      by_cases hc7 : v2 = 0
      · have hf := (if_pos hc7).symm.trans hf
        refine r_tableIn (tgt := 48) (off := 28) X d_M_listened_20 (by rw [hc7]; decide) (by rw [hc7]; decide) (by rw [hc7]; decide) (by decide) ?_
        refine r_aload_n X d_M_listened_48 rfl 0 rfl ?_
        obtain ⟨x8, h9, hf⟩ := obind hf
        refine r_ld_R (ci := 11) (k := 46) X h9 (Nat.le_of_ble_eq_true rfl) (Nat.le_of_ble_eq_true rfl) rfl rfl q750 d_M_listened_49 ?_
        refine r_iload_n X d_M_listened_52 rfl 1 rfl ?_
        obtain ⟨x10, h11, hf⟩ := obind hf
        refine r_al_I X h11 d_M_listened_53 ?_
        cases hf
        refine r_widen (kc2 := rm_M_listened.cells) (ks2 := rm_M_listened.slots) (Nat.le_of_ble_eq_true rfl) (Nat.le_of_ble_eq_true rfl) ?_
        exact r_iret X hret hlk d_M_listened_54
      have hf := (if_neg hc7).symm.trans hf
      by_cases hc12 : v2 = 1
      · have hf := (if_pos hc12).symm.trans hf
        refine r_tableIn (tgt := 55) (off := 35) X d_M_listened_20 (by rw [hc12]; decide) (by rw [hc12]; decide) (by rw [hc12]; decide) (by decide) ?_
        refine r_aload_n X d_M_listened_55 rfl 0 rfl ?_
        obtain ⟨x13, h14, hf⟩ := obind hf
        refine r_ld_R (ci := 11) (k := 47) X h14 (Nat.le_of_ble_eq_true rfl) (Nat.le_of_ble_eq_true rfl) rfl rfl q751 d_M_listened_56 ?_
        refine r_iload_n X d_M_listened_59 rfl 1 rfl ?_
        obtain ⟨x15, h16, hf⟩ := obind hf
        refine r_al_I X h16 d_M_listened_60 ?_
        cases hf
        refine r_widen (kc2 := rm_M_listened.cells) (ks2 := rm_M_listened.slots) (Nat.le_of_ble_eq_true rfl) (Nat.le_of_ble_eq_true rfl) ?_
        exact r_iret X hret hlk d_M_listened_61
      have hf := (if_neg hc12).symm.trans hf
      by_cases hc17 : v2 = 2
      · have hf := (if_pos hc17).symm.trans hf
        refine r_tableIn (tgt := 62) (off := 42) X d_M_listened_20 (by rw [hc17]; decide) (by rw [hc17]; decide) (by rw [hc17]; decide) (by decide) ?_
        refine r_aload_n X d_M_listened_62 rfl 0 rfl ?_
        obtain ⟨x18, h19, hf⟩ := obind hf
        refine r_ld_R (ci := 11) (k := 48) X h19 (Nat.le_of_ble_eq_true rfl) (Nat.le_of_ble_eq_true rfl) rfl rfl q752 d_M_listened_63 ?_
        refine r_iload_n X d_M_listened_66 rfl 1 rfl ?_
        obtain ⟨x20, h21, hf⟩ := obind hf
        refine r_al_I X h21 d_M_listened_67 ?_
        cases hf
        refine r_widen (kc2 := rm_M_listened.cells) (ks2 := rm_M_listened.slots) (Nat.le_of_ble_eq_true rfl) (Nat.le_of_ble_eq_true rfl) ?_
        exact r_iret X hret hlk d_M_listened_68
      have hf := (if_neg hc17).symm.trans hf
      refine r_tableOut (tgt := 69) X d_M_listened_20 (sw_out 2 [0, 1, 2] rfl (List.forall_mem_cons.mpr ⟨hc7, List.forall_mem_cons.mpr ⟨hc12, List.forall_mem_cons.mpr ⟨hc17, fun _ h => absurd h List.not_mem_nil⟩⟩⟩)) (by decide) ?_
      refine r_iconst (v := -1) X d_M_listened_69 (by decide) ?_
      cases hf
      refine r_widen (kc2 := rm_M_listened.cells) (ks2 := rm_M_listened.slots) (Nat.le_of_ble_eq_true rfl) (Nat.le_of_ble_eq_true rfl) ?_
      exact r_iret X hret hlk d_M_listened_70
    · have hf := (if_neg hc6).symm.trans hf
      refine r_iconst (v := -1) X d_M_listened_17 (by decide) ?_
      cases hf
      refine r_widen (kc2 := rm_M_listened.cells) (ks2 := rm_M_listened.slots) (Nat.le_of_ble_eq_true rfl) (Nat.le_of_ble_eq_true rfl) ?_
      exact r_iret X hret hlk d_M_listened_18

