def f_L_law_681 (n : Nat) (xs : Nat → Int32) (L : Nat) (rec53 : Option Nat → Option Nat → Option Nat → Int32 → Hp → Hp → Option Int32) (v1 : Option Nat) (v2 : Option Nat) (v3 : Option Nat) (v4 : Int32) (σ τ : Hp) : Option Int32 :=
  rec53 v1 v2 v3 (v4 + 5) σ τ
set_option maxRecDepth 100000 in
set_option maxHeartbeats 1000000 in
theorem b_L_law_681 {p : Program} {l : Launch} {e : Env} {s : State} {m : MethodId} {below : List Frame} {meth : Method} {c : Code} {DD : DT} {b L : Nat} {xs : Nat → Int32} (hfl : l.flags = flags0) (X : CX p s m #[Value.ref b] c code 7 (fun q => s.heap.size ≤ q) DD "WindowCacheLaw") (hX : va_X b L xs s s.heap) (hbl : b < s.heap.size) (hret : meth.sig.returnType = ret) (hlk : meth.locks = false) (hL : L ≤ 2563) (n : Nat) (kc ks : Nat) (hkc : kc ≤ 600000) (hks : ks ≤ 7290000) (rec53 : Option Nat → Option Nat → Option Nat → Int32 → Hp → Hp → Option Int32) (hrec53 : ∀ (v1 : Option Nat) (v2 : Option Nat) (v3 : Option Nat) (v4 : Int32) (σ τ : Hp), rec53 v1 v2 v3 v4 σ τ = some 1 → GP p l e room_1 s m #[Value.ref b] below meth c 7 (fun q => s.heap.size ≤ q) (W2 (fun q => s.heap.size ≤ q) DD σ τ) (lw_Z below #[Value.ref b] s) (kc + 1) (ks + 11) 53 [(0, tR (some b)), (1, tR v1), (2, tR v2), (3, tR v3), (4, tI v4)] []) (v1 : Option Nat) (v2 : Option Nat) (v3 : Option Nat) (v4 : Int32) (σ τ : Hp) (hf : f_L_law_681 n xs L rec53 v1 v2 v3 v4 σ τ = some 1) : GP p l e room_1 s m #[Value.ref b] below meth c 7 (fun q => s.heap.size ≤ q) (W2 (fun q => s.heap.size ≤ q) DD σ τ) (lw_Z below #[Value.ref b] s) (kc + 1) (ks + 11) 681 [(0, tR (some b)), (1, tR v1), (2, tR v2), (3, tR v3), (4, tI v4)] [] := by
  have hbA : ¬ (fun q => s.heap.size ≤ q) b := Nat.not_le.mpr hbl
  unfold f_L_law_681 at hf
  refine rp_iinc (lv' := [(0, tR (some b)), (1, tR v1), (2, tR v2), (3, tR v3), (4, tI (v4 + 5))]) (j := 4) X [1, 2, 3, 4, 0] d_L_law_681 rfl rfl (Nat.le_of_ble_eq_true rfl) rfl ?_
  refine rp_goto (tgt := 53) X d_L_law_684 (by decide) ?_
  refine rp_widen (kc2 := kc + 1) (ks2 := ks + 11) (Nat.add_le_add_left (Nat.le_of_ble_eq_true rfl) _) (Nat.add_le_add_left (Nat.le_of_ble_eq_true rfl) _) ?_
  refine rp_sub [0, 1, 2, 3, 4] (lv' := [(0, tR (some b)), (1, tR v1), (2, tR v2), (3, tR v3), (4, tI (v4 + 5))]) rfl ?_
  exact hrec53 v1 v2 v3 (v4 + 5) σ τ hf

def f_L_law_286 (n : Nat) (xs : Nat → Int32) (L : Nat) (rec53 : Option Nat → Option Nat → Option Nat → Int32 → Hp → Hp → Option Int32) (v1 : Option Nat) (v2 : Option Nat) (v3 : Option Nat) (v4 : Int32) (σ τ : Hp) : Option Int32 :=
  f_L_law_681 n xs L rec53 v1 v2 v3 v4 σ τ
set_option maxRecDepth 100000 in
set_option maxHeartbeats 1000000 in
theorem b_L_law_286 {p : Program} {l : Launch} {e : Env} {s : State} {m : MethodId} {below : List Frame} {meth : Method} {c : Code} {DD : DT} {b L : Nat} {xs : Nat → Int32} (hfl : l.flags = flags0) (X : CX p s m #[Value.ref b] c code 7 (fun q => s.heap.size ≤ q) DD "WindowCacheLaw") (hX : va_X b L xs s s.heap) (hbl : b < s.heap.size) (hret : meth.sig.returnType = ret) (hlk : meth.locks = false) (hL : L ≤ 2563) (n : Nat) (kc ks : Nat) (hkc : kc ≤ 600000) (hks : ks ≤ 7290000) (rec53 : Option Nat → Option Nat → Option Nat → Int32 → Hp → Hp → Option Int32) (hrec53 : ∀ (v1 : Option Nat) (v2 : Option Nat) (v3 : Option Nat) (v4 : Int32) (σ τ : Hp), rec53 v1 v2 v3 v4 σ τ = some 1 → GP p l e room_1 s m #[Value.ref b] below meth c 7 (fun q => s.heap.size ≤ q) (W2 (fun q => s.heap.size ≤ q) DD σ τ) (lw_Z below #[Value.ref b] s) (kc + 1) (ks + 11) 53 [(0, tR (some b)), (1, tR v1), (2, tR v2), (3, tR v3), (4, tI v4)] []) (v1 : Option Nat) (v2 : Option Nat) (v3 : Option Nat) (v4 : Int32) (σ τ : Hp) (hf : f_L_law_286 n xs L rec53 v1 v2 v3 v4 σ τ = some 1) : GP p l e room_1 s m #[Value.ref b] below meth c 7 (fun q => s.heap.size ≤ q) (W2 (fun q => s.heap.size ≤ q) DD σ τ) (lw_Z below #[Value.ref b] s) (kc + 1) (ks + 11) 286 [(0, tR (some b)), (1, tR v1), (2, tR v2), (3, tR v3), (4, tI v4)] [] := by
  have hbA : ¬ (fun q => s.heap.size ≤ q) b := Nat.not_le.mpr hbl
  unfold f_L_law_286 at hf
  refine rp_goto (tgt := 681) X d_L_law_286 (by decide) ?_
  refine rp_widen (kc2 := kc + 1) (ks2 := ks + 11) (Nat.add_le_add_left (Nat.le_of_ble_eq_true rfl) _) (Nat.add_le_add_left (Nat.le_of_ble_eq_true rfl) _) ?_
  refine rp_sub [0, 1, 2, 3, 4] (lv' := [(0, tR (some b)), (1, tR v1), (2, tR v2), (3, tR v3), (4, tI v4)]) rfl ?_
  exact b_L_law_681 hfl X hX hbl hret hlk hL n kc ks hkc hks rec53 hrec53 v1 v2 v3 v4 σ τ hf

def f_L_law_280 (n : Nat) (xs : Nat → Int32) (L : Nat) (rec53 : Option Nat → Option Nat → Option Nat → Int32 → Hp → Hp → Option Int32) (v1 : Option Nat) (v2 : Option Nat) (v3 : Option Nat) (v4 : Int32) (w0 : Int64) (w1 : Int64) (σ τ : Hp) : Option Int32 :=
  if (lg_cmp w1 w0) = 0 then
  (
    f_L_law_286 n xs L rec53 v1 v2 v3 v4 σ τ)
  else
  (
    some 0)
set_option maxRecDepth 100000 in
set_option maxHeartbeats 1000000 in
theorem b_L_law_280 {p : Program} {l : Launch} {e : Env} {s : State} {m : MethodId} {below : List Frame} {meth : Method} {c : Code} {DD : DT} {b L : Nat} {xs : Nat → Int32} (hfl : l.flags = flags0) (X : CX p s m #[Value.ref b] c code 7 (fun q => s.heap.size ≤ q) DD "WindowCacheLaw") (hX : va_X b L xs s s.heap) (hbl : b < s.heap.size) (hret : meth.sig.returnType = ret) (hlk : meth.locks = false) (hL : L ≤ 2563) (n : Nat) (kc ks : Nat) (hkc : kc ≤ 600000) (hks : ks ≤ 7290000) (rec53 : Option Nat → Option Nat → Option Nat → Int32 → Hp → Hp → Option Int32) (hrec53 : ∀ (v1 : Option Nat) (v2 : Option Nat) (v3 : Option Nat) (v4 : Int32) (σ τ : Hp), rec53 v1 v2 v3 v4 σ τ = some 1 → GP p l e room_1 s m #[Value.ref b] below meth c 7 (fun q => s.heap.size ≤ q) (W2 (fun q => s.heap.size ≤ q) DD σ τ) (lw_Z below #[Value.ref b] s) (kc + 1) (ks + 11) 53 [(0, tR (some b)), (1, tR v1), (2, tR v2), (3, tR v3), (4, tI v4)] []) (v1 : Option Nat) (v2 : Option Nat) (v3 : Option Nat) (v4 : Int32) (w0 : Int64) (w1 : Int64) (σ τ : Hp) (hf : f_L_law_280 n xs L rec53 v1 v2 v3 v4 w0 w1 σ τ = some 1) : GP p l e room_1 s m #[Value.ref b] below meth c 7 (fun q => s.heap.size ≤ q) (W2 (fun q => s.heap.size ≤ q) DD σ τ) (lw_Z below #[Value.ref b] s) (kc + 1) (ks + 11) 280 [(0, tR (some b)), (1, tR v1), (2, tR v2), (3, tR v3), (4, tI v4)] [tL w0, tL w1] := by
  have hbA : ¬ (fun q => s.heap.size ≤ q) b := Nat.not_le.mpr hbl
  unfold f_L_law_280 at hf
  refine rp_lcmp X d_L_law_280 ?_
  refine rp_if_eq (tgt := 286) X d_L_law_281 (by decide) (fun hc75 => ?_) (fun hc75 => ?_)
  · have hf := (if_pos hc75).symm.trans hf
    refine rp_widen (kc2 := kc + 1) (ks2 := ks + 11) (Nat.add_le_add_left (Nat.le_of_ble_eq_true rfl) _) (Nat.add_le_add_left (Nat.le_of_ble_eq_true rfl) _) ?_
    refine rp_sub [0, 1, 2, 3, 4] (lv' := [(0, tR (some b)), (1, tR v1), (2, tR v2), (3, tR v3), (4, tI v4)]) rfl ?_
    exact b_L_law_286 hfl X hX hbl hret hlk hL n kc ks hkc hks rec53 hrec53 v1 v2 v3 v4 σ τ hf
  · have hf := (if_neg hc75).symm.trans hf
    refine rp_iconst (v := 0) X d_L_law_284 (by decide) ?_
    exact absurd hf (by decide)

def f_L_law_367 (n : Nat) (xs : Nat → Int32) (L : Nat) (rec53 : Option Nat → Option Nat → Option Nat → Int32 → Hp → Hp → Option Int32) (v1 : Option Nat) (v2 : Option Nat) (v3 : Option Nat) (v4 : Int32) (σ τ : Hp) : Option Int32 :=
  f_L_law_681 n xs L rec53 v1 v2 v3 v4 σ τ
set_option maxRecDepth 100000 in
set_option maxHeartbeats 1000000 in
theorem b_L_law_367 {p : Program} {l : Launch} {e : Env} {s : State} {m : MethodId} {below : List Frame} {meth : Method} {c : Code} {DD : DT} {b L : Nat} {xs : Nat → Int32} (hfl : l.flags = flags0) (X : CX p s m #[Value.ref b] c code 7 (fun q => s.heap.size ≤ q) DD "WindowCacheLaw") (hX : va_X b L xs s s.heap) (hbl : b < s.heap.size) (hret : meth.sig.returnType = ret) (hlk : meth.locks = false) (hL : L ≤ 2563) (n : Nat) (kc ks : Nat) (hkc : kc ≤ 600000) (hks : ks ≤ 7290000) (rec53 : Option Nat → Option Nat → Option Nat → Int32 → Hp → Hp → Option Int32) (hrec53 : ∀ (v1 : Option Nat) (v2 : Option Nat) (v3 : Option Nat) (v4 : Int32) (σ τ : Hp), rec53 v1 v2 v3 v4 σ τ = some 1 → GP p l e room_1 s m #[Value.ref b] below meth c 7 (fun q => s.heap.size ≤ q) (W2 (fun q => s.heap.size ≤ q) DD σ τ) (lw_Z below #[Value.ref b] s) (kc + 1) (ks + 11) 53 [(0, tR (some b)), (1, tR v1), (2, tR v2), (3, tR v3), (4, tI v4)] []) (v1 : Option Nat) (v2 : Option Nat) (v3 : Option Nat) (v4 : Int32) (σ τ : Hp) (hf : f_L_law_367 n xs L rec53 v1 v2 v3 v4 σ τ = some 1) : GP p l e room_1 s m #[Value.ref b] below meth c 7 (fun q => s.heap.size ≤ q) (W2 (fun q => s.heap.size ≤ q) DD σ τ) (lw_Z below #[Value.ref b] s) (kc + 1) (ks + 6) 367 [(0, tR (some b)), (1, tR v1), (2, tR v2), (3, tR v3), (4, tI v4)] [] := by
  have hbA : ¬ (fun q => s.heap.size ≤ q) b := Nat.not_le.mpr hbl
  unfold f_L_law_367 at hf
  refine rp_goto (tgt := 681) X d_L_law_367 (by decide) ?_
  refine rp_widen (kc2 := kc + 1) (ks2 := ks + 11) (Nat.add_le_add_left (Nat.le_of_ble_eq_true rfl) _) (Nat.add_le_add_left (Nat.le_of_ble_eq_true rfl) _) ?_
  refine rp_sub [0, 1, 2, 3, 4] (lv' := [(0, tR (some b)), (1, tR v1), (2, tR v2), (3, tR v3), (4, tI v4)]) rfl ?_
  exact b_L_law_681 hfl X hX hbl hret hlk hL n kc ks hkc hks rec53 hrec53 v1 v2 v3 v4 σ τ hf

def f_L_law_479 (n : Nat) (xs : Nat → Int32) (L : Nat) (rec53 : Option Nat → Option Nat → Option Nat → Int32 → Hp → Hp → Option Int32) (v1 : Option Nat) (v2 : Option Nat) (v3 : Option Nat) (v4 : Int32) (σ τ : Hp) : Option Int32 :=
  f_L_law_681 n xs L rec53 v1 v2 v3 v4 σ τ
set_option maxRecDepth 100000 in
set_option maxHeartbeats 1000000 in
theorem b_L_law_479 {p : Program} {l : Launch} {e : Env} {s : State} {m : MethodId} {below : List Frame} {meth : Method} {c : Code} {DD : DT} {b L : Nat} {xs : Nat → Int32} (hfl : l.flags = flags0) (X : CX p s m #[Value.ref b] c code 7 (fun q => s.heap.size ≤ q) DD "WindowCacheLaw") (hX : va_X b L xs s s.heap) (hbl : b < s.heap.size) (hret : meth.sig.returnType = ret) (hlk : meth.locks = false) (hL : L ≤ 2563) (n : Nat) (kc ks : Nat) (hkc : kc ≤ 600000) (hks : ks ≤ 7290000) (rec53 : Option Nat → Option Nat → Option Nat → Int32 → Hp → Hp → Option Int32) (hrec53 : ∀ (v1 : Option Nat) (v2 : Option Nat) (v3 : Option Nat) (v4 : Int32) (σ τ : Hp), rec53 v1 v2 v3 v4 σ τ = some 1 → GP p l e room_1 s m #[Value.ref b] below meth c 7 (fun q => s.heap.size ≤ q) (W2 (fun q => s.heap.size ≤ q) DD σ τ) (lw_Z below #[Value.ref b] s) (kc + 1) (ks + 11) 53 [(0, tR (some b)), (1, tR v1), (2, tR v2), (3, tR v3), (4, tI v4)] []) (v1 : Option Nat) (v2 : Option Nat) (v3 : Option Nat) (v4 : Int32) (σ τ : Hp) (hf : f_L_law_479 n xs L rec53 v1 v2 v3 v4 σ τ = some 1) : GP p l e room_1 s m #[Value.ref b] below meth c 7 (fun q => s.heap.size ≤ q) (W2 (fun q => s.heap.size ≤ q) DD σ τ) (lw_Z below #[Value.ref b] s) (kc + 1) (ks + 11) 479 [(0, tR (some b)), (1, tR v1), (2, tR v2), (3, tR v3), (4, tI v4)] [] := by
  have hbA : ¬ (fun q => s.heap.size ≤ q) b := Nat.not_le.mpr hbl
  unfold f_L_law_479 at hf
  refine rp_goto (tgt := 681) X d_L_law_479 (by decide) ?_
  refine rp_widen (kc2 := kc + 1) (ks2 := ks + 11) (Nat.add_le_add_left (Nat.le_of_ble_eq_true rfl) _) (Nat.add_le_add_left (Nat.le_of_ble_eq_true rfl) _) ?_
  refine rp_sub [0, 1, 2, 3, 4] (lv' := [(0, tR (some b)), (1, tR v1), (2, tR v2), (3, tR v3), (4, tI v4)]) rfl ?_
  exact b_L_law_681 hfl X hX hbl hret hlk hL n kc ks hkc hks rec53 hrec53 v1 v2 v3 v4 σ τ hf

def f_L_law_473 (n : Nat) (xs : Nat → Int32) (L : Nat) (rec53 : Option Nat → Option Nat → Option Nat → Int32 → Hp → Hp → Option Int32) (v1 : Option Nat) (v2 : Option Nat) (v3 : Option Nat) (v4 : Int32) (w0 : Int64) (w1 : Int64) (σ τ : Hp) : Option Int32 :=
  if (lg_cmp w1 w0) = 0 then
  (
    f_L_law_479 n xs L rec53 v1 v2 v3 v4 σ τ)
  else
  (
    some 0)
set_option maxRecDepth 100000 in
set_option maxHeartbeats 1000000 in
theorem b_L_law_473 {p : Program} {l : Launch} {e : Env} {s : State} {m : MethodId} {below : List Frame} {meth : Method} {c : Code} {DD : DT} {b L : Nat} {xs : Nat → Int32} (hfl : l.flags = flags0) (X : CX p s m #[Value.ref b] c code 7 (fun q => s.heap.size ≤ q) DD "WindowCacheLaw") (hX : va_X b L xs s s.heap) (hbl : b < s.heap.size) (hret : meth.sig.returnType = ret) (hlk : meth.locks = false) (hL : L ≤ 2563) (n : Nat) (kc ks : Nat) (hkc : kc ≤ 600000) (hks : ks ≤ 7290000) (rec53 : Option Nat → Option Nat → Option Nat → Int32 → Hp → Hp → Option Int32) (hrec53 : ∀ (v1 : Option Nat) (v2 : Option Nat) (v3 : Option Nat) (v4 : Int32) (σ τ : Hp), rec53 v1 v2 v3 v4 σ τ = some 1 → GP p l e room_1 s m #[Value.ref b] below meth c 7 (fun q => s.heap.size ≤ q) (W2 (fun q => s.heap.size ≤ q) DD σ τ) (lw_Z below #[Value.ref b] s) (kc + 1) (ks + 11) 53 [(0, tR (some b)), (1, tR v1), (2, tR v2), (3, tR v3), (4, tI v4)] []) (v1 : Option Nat) (v2 : Option Nat) (v3 : Option Nat) (v4 : Int32) (w0 : Int64) (w1 : Int64) (σ τ : Hp) (hf : f_L_law_473 n xs L rec53 v1 v2 v3 v4 w0 w1 σ τ = some 1) : GP p l e room_1 s m #[Value.ref b] below meth c 7 (fun q => s.heap.size ≤ q) (W2 (fun q => s.heap.size ≤ q) DD σ τ) (lw_Z below #[Value.ref b] s) (kc + 1) (ks + 11) 473 [(0, tR (some b)), (1, tR v1), (2, tR v2), (3, tR v3), (4, tI v4)] [tL w0, tL w1] := by
  have hbA : ¬ (fun q => s.heap.size ≤ q) b := Nat.not_le.mpr hbl
  unfold f_L_law_473 at hf
  refine rp_lcmp X d_L_law_473 ?_
  refine rp_if_eq (tgt := 479) X d_L_law_474 (by decide) (fun hc162 => ?_) (fun hc162 => ?_)
  · have hf := (if_pos hc162).symm.trans hf
    refine rp_widen (kc2 := kc + 1) (ks2 := ks + 11) (Nat.add_le_add_left (Nat.le_of_ble_eq_true rfl) _) (Nat.add_le_add_left (Nat.le_of_ble_eq_true rfl) _) ?_
    refine rp_sub [0, 1, 2, 3, 4] (lv' := [(0, tR (some b)), (1, tR v1), (2, tR v2), (3, tR v3), (4, tI v4)]) rfl ?_
    exact b_L_law_479 hfl X hX hbl hret hlk hL n kc ks hkc hks rec53 hrec53 v1 v2 v3 v4 σ τ hf
  · have hf := (if_neg hc162).symm.trans hf
    refine rp_iconst (v := 0) X d_L_law_477 (by decide) ?_
    exact absurd hf (by decide)

def f_L_law_53 (n : Nat) (xs : Nat → Int32) (L : Nat) : Nat → Option Nat → Option Nat → Option Nat → Int32 → Hp → Hp → Option Int32
  | 0, _, _, _, _, _, _ => none
  | i + 1, v1, v2, v3, v4, σ, τ =>
    if ((Int32.ofNat L) - 5) < v4 then
    (
      some 1)
    else
    (
      Option.bind (ix_ v4 L) fun x6 =>
      if ((xs x6) &&& 15) = 0 then
      (
        Option.bind (ix_ (v4 + 1) L) fun x9 =>
        Option.bind (is_O σ v1 0) fun x12 =>
        pb (f_W_get v1 (xs x9) σ) fun x15 σ14 =>
        Option.bind (ix_ (v4 + 1) L) fun x16 =>
        Option.bind (is_O ((bmp (hp_N σ14) τ)) v2 11) fun x19 =>
        pb (f_M_get v2 (xs x16) ((bmp (hp_N σ14) τ))) fun x22 τ21 =>
        if x15 = x22 then
        (
          f_L_law_681 n xs L (f_L_law_53 n xs L i) v1 v2 v3 v4 ((bmp (hp_N τ21) σ14)) τ21)
        else
        (
          some 0))
      else
      if ((xs x6) &&& 15) = 1 then
      (
        Option.bind (ix_ (v4 + 1) L) fun x25 =>
        Option.bind (is_O σ v1 0) fun x28 =>
        pb (f_W_has v1 (xs x25) σ) fun x31 σ30 =>
        Option.bind (ix_ (v4 + 1) L) fun x32 =>
        Option.bind (is_O ((bmp (hp_N σ30) τ)) v2 11) fun x35 =>
        pb (f_M_has v2 (xs x32) ((bmp (hp_N σ30) τ))) fun x38 τ37 =>
        if x31 = x38 then
        (
          f_L_law_681 n xs L (f_L_law_53 n xs L i) v1 v2 v3 v4 ((bmp (hp_N τ37) σ30)) τ37)
        else
        (
          some 0))
      else
      if ((xs x6) &&& 15) = 2 then
      (
        Option.bind (ix_ (v4 + 1) L) fun x41 =>
        Option.bind (ix_ (v4 + 2) L) fun x43 =>
        Option.bind (ix_ (v4 + 3) L) fun x45 =>
        Option.bind (ix_ (v4 + 4) L) fun x47 =>
        pb (f_L_put n v1 (xs x41) (xs x43) (xs x45) (xs x47) v3 σ) fun x51 σ50 =>
        Option.bind (ix_ (v4 + 1) L) fun x52 =>
        Option.bind (ix_ (v4 + 2) L) fun x54 =>
        Option.bind (ix_ (v4 + 3) L) fun x56 =>
        Option.bind (ix_ (v4 + 4) L) fun x58 =>
        Option.bind (is_O ((bmp (hp_N σ50) τ)) v2 11) fun x61 =>
        pb (f_M_put n v2 (xs x52) (xs x54) (xs x56) (xs x58) ((bmp (hp_N σ50) τ))) fun x64 τ63 =>
        Option.bind (is_O τ63 v2 11) fun x66 =>
        pb (f_M_thrown v2 τ63) fun x69 τ68 =>
        if x69 = x51 then
        (
          if x51 = 0 then
          (
            Option.bind (al_L ((bmp (hp_N τ68) ((bmp (hp_N τ63) σ50)))) 1 v3 0) fun x72 =>
            if x64 = 0 then
            (
              f_L_law_280 n xs L (f_L_law_53 n xs L i) v1 v2 v3 v4 0 x72 ((bmp (hp_N τ68) ((bmp (hp_N τ63) σ50)))) τ68)
            else
            (
              f_L_law_280 n xs L (f_L_law_53 n xs L i) v1 v2 v3 v4 1 x72 ((bmp (hp_N τ68) ((bmp (hp_N τ63) σ50)))) τ68))
          else
          (
            f_L_law_286 n xs L (f_L_law_53 n xs L i) v1 v2 v3 v4 ((bmp (hp_N τ68) ((bmp (hp_N τ63) σ50)))) τ68))
        else
        (
          some 0))
      else
      if ((xs x6) &&& 15) = 3 then
      (
        Option.bind (ix_ (v4 + 1) L) fun x77 =>
        Option.bind (is_O σ v1 0) fun x80 =>
        pb (f_W_remove n v1 (xs x77) σ) fun x83 σ82 =>
        Option.bind (ix_ (v4 + 1) L) fun x84 =>
        Option.bind (is_O ((bmp (hp_N σ82) τ)) v2 11) fun x87 =>
        pb (f_M_remove n v2 (xs x84) ((bmp (hp_N σ82) τ))) fun x90 τ89 =>
        if x83 = x90 then
        (
          f_L_law_681 n xs L (f_L_law_53 n xs L i) v1 v2 v3 v4 ((bmp (hp_N τ89) σ82)) τ89)
        else
        (
          some 0))
      else
      if ((xs x6) &&& 15) = 4 then
      (
        Option.bind (ix_ (v4 + 1) L) fun x93 =>
        pb (f_L_load v1 (xs x93) v3 σ) fun x97 σ96 =>
        Option.bind (ix_ (v4 + 1) L) fun x98 =>
        Option.bind (is_O ((bmp (hp_N σ96) τ)) v2 11) fun x101 =>
        pb (f_M_load v2 (xs x98) ((bmp (hp_N σ96) τ))) fun x104 τ103 =>
        Option.bind (is_O τ103 v2 11) fun x106 =>
        pb (f_M_thrown v2 τ103) fun x109 τ108 =>
        if x109 = x97 then
        (
          if x97 = 0 then
          (
            Option.bind (al_L ((bmp (hp_N τ108) ((bmp (hp_N τ103) σ96)))) 1 v3 0) fun x112 =>
            if (lg_cmp x112 (Int32.toInt64 x104)) = 0 then
            (
              f_L_law_367 n xs L (f_L_law_53 n xs L i) v1 v2 v3 v4 ((bmp (hp_N τ108) ((bmp (hp_N τ103) σ96)))) τ108)
            else
            (
              some 0))
          else
          (
            f_L_law_367 n xs L (f_L_law_53 n xs L i) v1 v2 v3 v4 ((bmp (hp_N τ108) ((bmp (hp_N τ103) σ96)))) τ108))
        else
        (
          some 0))
      else
      if ((xs x6) &&& 15) = 5 then
      (
        Option.bind (ix_ (v4 + 1) L) fun x116 =>
        Option.bind (is_O σ v1 0) fun x119 =>
        pb (f_W_refresh v1 (xs x116) σ) fun x122 σ121 =>
        Option.bind (ix_ (v4 + 1) L) fun x123 =>
        Option.bind (is_O ((bmp (hp_N σ121) τ)) v2 11) fun x126 =>
        pb (f_M_refresh v2 (xs x123) ((bmp (hp_N σ121) τ))) fun x129 τ128 =>
        if x122 = x129 then
        (
          f_L_law_681 n xs L (f_L_law_53 n xs L i) v1 v2 v3 v4 ((bmp (hp_N τ128) σ121)) τ128)
        else
        (
          some 0))
      else
      if ((xs x6) &&& 15) = 6 then
      (
        Option.bind (ix_ (v4 + 1) L) fun x132 =>
        Option.bind (ix_ (v4 + 2) L) fun x134 =>
        Option.bind (ix_ (v4 + 3) L) fun x136 =>
        pb (f_L_finish n v1 (xs x132) (xs x134) (xs x136) v3 σ) fun x140 σ139 =>
        Option.bind (ix_ (v4 + 1) L) fun x141 =>
        Option.bind (ix_ (v4 + 2) L) fun x143 =>
        Option.bind (ix_ (v4 + 3) L) fun x145 =>
        Option.bind (is_O ((bmp (hp_N σ139) τ)) v2 11) fun x148 =>
        pb (f_M_finish n v2 (xs x141) (xs x143) (xs x145) ((bmp (hp_N σ139) τ))) fun x151 τ150 =>
        Option.bind (is_O τ150 v2 11) fun x153 =>
        pb (f_M_thrown v2 τ150) fun x156 τ155 =>
        if x156 = x140 then
        (
          if x140 = 0 then
          (
            Option.bind (al_L ((bmp (hp_N τ155) ((bmp (hp_N τ150) σ139)))) 1 v3 0) fun x159 =>
            if x151 = 0 then
            (
              f_L_law_473 n xs L (f_L_law_53 n xs L i) v1 v2 v3 v4 0 x159 ((bmp (hp_N τ155) ((bmp (hp_N τ150) σ139)))) τ155)
            else
            (
              f_L_law_473 n xs L (f_L_law_53 n xs L i) v1 v2 v3 v4 1 x159 ((bmp (hp_N τ155) ((bmp (hp_N τ150) σ139)))) τ155))
          else
          (
            f_L_law_479 n xs L (f_L_law_53 n xs L i) v1 v2 v3 v4 ((bmp (hp_N τ155) ((bmp (hp_N τ150) σ139)))) τ155))
        else
        (
          some 0))
      else
      if ((xs x6) &&& 15) = 7 then
      (
        Option.bind (ix_ (v4 + 1) L) fun x164 =>
        pb (f_L_fail v1 (xs x164) σ) fun x168 σ167 =>
        Option.bind (ix_ (v4 + 1) L) fun x169 =>
        Option.bind (is_O ((bmp (hp_N σ167) τ)) v2 11) fun x172 =>
        Option.bind (f_M_fail v2 (xs x169) ((bmp (hp_N σ167) τ))) fun τ174 =>
        Option.bind (is_O τ174 v2 11) fun x176 =>
        pb (f_M_thrown v2 τ174) fun x179 τ178 =>
        if x179 = x168 then
        (
          f_L_law_681 n xs L (f_L_law_53 n xs L i) v1 v2 v3 v4 ((bmp (hp_N τ178) ((bmp (hp_N τ174) σ167)))) τ178)
        else
        (
          some 0))
      else
      if ((xs x6) &&& 15) = 8 then
      (
        Option.bind (ix_ (v4 + 1) L) fun x182 =>
        Option.bind (is_O σ v1 0) fun x185 =>
        pb (f_W_advance v1 (xs x182) σ) fun x188 σ187 =>
        Option.bind (ix_ (v4 + 1) L) fun x189 =>
        Option.bind (is_O ((bmp (hp_N σ187) τ)) v2 11) fun x192 =>
        pb (f_M_advance v2 (xs x189) ((bmp (hp_N σ187) τ))) fun x195 τ194 =>
        if (lg_cmp x188 x195) = 0 then
        (
          f_L_law_681 n xs L (f_L_law_53 n xs L i) v1 v2 v3 v4 ((bmp (hp_N τ194) σ187)) τ194)
        else
        (
          some 0))
      else
      if ((xs x6) &&& 15) = 9 then
      (
        Option.bind (is_O σ v1 0) fun x199 =>
        pb (f_W_maintain n v1 σ) fun x202 σ201 =>
        Option.bind (is_O ((bmp (hp_N σ201) τ)) v2 11) fun x204 =>
        pb (f_M_maintain n v2 ((bmp (hp_N σ201) τ))) fun x207 τ206 =>
        if x202 = x207 then
        (
          f_L_law_681 n xs L (f_L_law_53 n xs L i) v1 v2 v3 v4 ((bmp (hp_N τ206) σ201)) τ206)
        else
        (
          some 0))
      else
      if ((xs x6) &&& 15) = 10 then
      (
        Option.bind (ix_ (v4 + 1) L) fun x210 =>
        Option.bind (is_O σ v1 0) fun x213 =>
        pb (f_W_count n v1 (xs x210) σ) fun x216 σ215 =>
        Option.bind (ix_ (v4 + 1) L) fun x217 =>
        Option.bind (is_O ((bmp (hp_N σ215) τ)) v2 11) fun x220 =>
        pb (f_M_count n v2 (xs x217) ((bmp (hp_N σ215) τ))) fun x223 τ222 =>
        if x216 = x223 then
        (
          f_L_law_681 n xs L (f_L_law_53 n xs L i) v1 v2 v3 v4 ((bmp (hp_N τ222) σ215)) τ222)
        else
        (
          some 0))
      else
      if ((xs x6) &&& 15) = 11 then
      (
        Option.bind (ix_ (v4 + 1) L) fun x226 =>
        Option.bind (is_O σ v1 0) fun x229 =>
        pb (f_W_often n v1 (xs x226) σ) fun x232 σ231 =>
        Option.bind (ix_ (v4 + 1) L) fun x233 =>
        Option.bind (is_O ((bmp (hp_N σ231) τ)) v2 11) fun x236 =>
        pb (f_M_often n v2 (xs x233) ((bmp (hp_N σ231) τ))) fun x239 τ238 =>
        if x232 = x239 then
        (
          f_L_law_681 n xs L (f_L_law_53 n xs L i) v1 v2 v3 v4 ((bmp (hp_N τ238) σ231)) τ238)
        else
        (
          some 0))
      else
      if ((xs x6) &&& 15) = 12 then
      (
        Option.bind (ix_ (v4 + 1) L) fun x242 =>
        Option.bind (ix_ (v4 + 2) L) fun x244 =>
        Option.bind (is_O σ v1 0) fun x247 =>
        pb (f_W_at n v1 (xs x242) (xs x244) σ) fun x250 σ249 =>
        Option.bind (ix_ (v4 + 1) L) fun x251 =>
        Option.bind (ix_ (v4 + 2) L) fun x253 =>
        Option.bind (is_O ((bmp (hp_N σ249) τ)) v2 11) fun x256 =>
        pb (f_M_at n v2 (xs x251) (xs x253) ((bmp (hp_N σ249) τ))) fun x259 τ258 =>
        if x250 = x259 then
        (
          f_L_law_681 n xs L (f_L_law_53 n xs L i) v1 v2 v3 v4 ((bmp (hp_N τ258) σ249)) τ258)
        else
        (
          some 0))
      else
      if ((xs x6) &&& 15) = 13 then
      (
        Option.bind (ix_ (v4 + 1) L) fun x262 =>
        Option.bind (ix_ (v4 + 2) L) fun x264 =>
        Option.bind (is_O σ v1 0) fun x267 =>
        pb (f_W_listened v1 (xs x262) (xs x264) σ) fun x270 σ269 =>
        Option.bind (ix_ (v4 + 1) L) fun x271 =>
        Option.bind (ix_ (v4 + 2) L) fun x273 =>
        Option.bind (is_O ((bmp (hp_N σ269) τ)) v2 11) fun x276 =>
        pb (f_M_listened v2 (xs x271) (xs x273) ((bmp (hp_N σ269) τ))) fun x279 τ278 =>
        if x270 = x279 then
        (
          f_L_law_681 n xs L (f_L_law_53 n xs L i) v1 v2 v3 v4 ((bmp (hp_N τ278) σ269)) τ278)
        else
        (
          some 0))
      else
      (
        f_L_law_681 n xs L (f_L_law_53 n xs L i) v1 v2 v3 v4 σ τ))
set_option maxRecDepth 100000 in
set_option maxHeartbeats 1000000 in
theorem b_L_law_53 {p : Program} {l : Launch} {e : Env} {s : State} {m : MethodId} {below : List Frame} {meth : Method} {c : Code} {DD : DT} {b L : Nat} {xs : Nat → Int32} (hfl : l.flags = flags0) (X : CX p s m #[Value.ref b] c code 7 (fun q => s.heap.size ≤ q) DD "WindowCacheLaw") (hX : va_X b L xs s s.heap) (hbl : b < s.heap.size) (hret : meth.sig.returnType = ret) (hlk : meth.locks = false) (hL : L ≤ 2563) (n : Nat) : ∀ (i kc ks : Nat) (hkc0 : kc + i * 1 ≤ 600000) (hks0 : ks + i * 11 ≤ 7290000) (v1 : Option Nat) (v2 : Option Nat) (v3 : Option Nat) (v4 : Int32) (σ τ : Hp) (hf : f_L_law_53 n xs L i v1 v2 v3 v4 σ τ = some 1), GP p l e room_1 s m #[Value.ref b] below meth c 7 (fun q => s.heap.size ≤ q) (W2 (fun q => s.heap.size ≤ q) DD σ τ) (lw_Z below #[Value.ref b] s) (kc) (ks) 53 [(0, tR (some b)), (1, tR v1), (2, tR v2), (3, tR v3), (4, tI v4)] [] := by
  have hbA : ¬ (fun q => s.heap.size ≤ q) b := Nat.not_le.mpr hbl
  intro i
  induction i with
  | zero => intro kc ks _ _ v1 v2 v3 v4 σ τ hf; cases hf
  | succ i ih =>
    intro kc ks hkc0 hks0 v1 v2 v3 v4 σ τ hf
    have hkc : kc ≤ 600000 := by omega
    have hks : ks ≤ 7290000 := by omega
    have hrec := ih (kc + 1) (ks + 11) (by omega) (by omega)
    refine rp_widen (kc2 := kc + 0) (ks2 := ks + 0) (Nat.le_refl _) (Nat.le_refl _) ?_
    simp only [f_L_law_53] at hf
    refine rp_iload X d_L_law_53 4 rfl ?_
    refine rp_aload_n X d_L_law_55 rfl 0 rfl ?_
    refine rp_slen X hX hbl hbA d_L_law_56 ?_
    refine rp_iconst (v := 5) X d_L_law_57 (by decide) ?_
    refine rp_isub X d_L_law_58 ?_
    refine rp_icmp_gt (tgt := 687) X d_L_law_59 (by decide) (fun hc5 => ?_) (fun hc5 => ?_)
    · have hf := (if_pos hc5).symm.trans hf
      refine rp_iconst (v := 1) X d_L_law_687 (by decide) ?_
      refine rp_widen (kc2 := 601024) (ks2 := 7293000) (by omega) (by omega) ?_
      exact fun H locs ls h1 h2 h3 => va_forget (fun q hq => h2.2.2 q hq) (lw_ret X.1 X.2.1 hret hlk d_L_law_688)
    · have hf := (if_neg hc5).symm.trans hf
      refine rp_aload_n X d_L_law_62 rfl 0 rfl ?_
      refine rp_iload X d_L_law_63 4 rfl ?_
      obtain ⟨x6, h7, hf⟩ := obind hf
      refine rp_sld X hX hbl hbA h7 d_L_law_65 ?_
      refine rp_bipush (v := 15) X d_L_law_66 (by decide) ?_
      refine rp_iand X d_L_law_68 ?_
      by_cases hc8 : ((xs x6) &&& 15) = 0
      · have hf := (if_pos hc8).symm.trans hf
        refine rp_tableIn (tgt := 140) (off := 71) X d_L_law_69 (by rw [hc8]; decide) (by rw [hc8]; decide) (by rw [hc8]; decide) (by decide) ?_
        refine rp_aload_n X d_L_law_140 rfl 1 rfl ?_
        refine rp_aload_n X d_L_law_141 rfl 0 rfl ?_
        refine rp_iload X d_L_law_142 4 rfl ?_
        refine rp_iconst (v := 1) X d_L_law_144 (by decide) ?_
        refine rp_iadd X d_L_law_145 ?_
        obtain ⟨x9, h10, hf⟩ := obind hf
        refine rp_sld X hX hbl hbA h10 d_L_law_146 ?_
        obtain ⟨x12, h11, hf⟩ := obind hf
        obtain ⟨x15, σ14, h13, hf⟩ := pbind hf
        refine rp_callV (st := []) X [tI (xs x9)] (ci := 0) h11 (Nat.le_of_ble_eq_true rfl) q267 q268 q269 (c_W_get v1 (xs x9) h13) q270 q1 y_W_get_ok rfl ⟨Nat.le_of_ble_eq_true rfl, Nat.le_of_ble_eq_true rfl⟩ (Nat.le_of_ble_eq_true rfl) ⟨by show kc + 0 + 0 ≤ 601024; omega, by show ks + 0 + 0 ≤ 7293000; omega⟩ d_L_law_147 ?_
        refine rp_widen (kc2 := kc + 0) (ks2 := ks + 0) (Nat.le_refl _) (Nat.le_refl _) ?_
        refine rp_aload_n X d_L_law_150 rfl 2 rfl ?_
        refine rp_aload_n X d_L_law_151 rfl 0 rfl ?_
        refine rp_iload X d_L_law_152 4 rfl ?_
        refine rp_iconst (v := 1) X d_L_law_154 (by decide) ?_
        refine rp_iadd X d_L_law_155 ?_
        obtain ⟨x16, h17, hf⟩ := obind hf
        refine rp_sld X hX hbl hbA h17 d_L_law_156 ?_
        refine rp_swap ?_
        obtain ⟨x19, h18, hf⟩ := obind hf
        obtain ⟨x22, τ21, h20, hf⟩ := pbind hf
        refine rp_callV (st := [tI x15]) X [tI (xs x16)] (ci := 11) h18 (Nat.le_of_ble_eq_true rfl) q858 q859 q860 (c_M_get v2 (xs x16) h20) q861 q11 y_M_get_ok rfl ⟨Nat.le_of_ble_eq_true rfl, Nat.le_of_ble_eq_true rfl⟩ (Nat.le_of_ble_eq_true rfl) ⟨by show kc + 0 + 0 ≤ 601024; omega, by show ks + 0 + 0 ≤ 7293000; omega⟩ d_L_law_157 ?_
        refine rp_swap ?_
        refine rp_widen (kc2 := kc + 0) (ks2 := ks + 0) (Nat.le_refl _) (Nat.le_refl _) ?_
        refine rp_icmp_eq (tgt := 681) X d_L_law_160 (by decide) (fun hc23 => ?_) (fun hc23 => ?_)
        · have hf := (if_pos hc23).symm.trans hf
          refine rp_widen (kc2 := kc + 1) (ks2 := ks + 11) (Nat.add_le_add_left (Nat.le_of_ble_eq_true rfl) _) (Nat.add_le_add_left (Nat.le_of_ble_eq_true rfl) _) ?_
          refine rp_sub [0, 1, 2, 3, 4] (lv' := [(0, tR (some b)), (1, tR v1), (2, tR v2), (3, tR v3), (4, tI v4)]) rfl ?_
          exact b_L_law_681 hfl X hX hbl hret hlk hL n kc ks hkc hks (f_L_law_53 n xs L i) hrec v1 v2 v3 v4 ((bmp (hp_N τ21) σ14)) τ21 hf
        · have hf := (if_neg hc23).symm.trans hf
          refine rp_iconst (v := 0) X d_L_law_163 (by decide) ?_
          exact absurd hf (by decide)
      have hf := (if_neg hc8).symm.trans hf
      by_cases hc24 : ((xs x6) &&& 15) = 1
      · have hf := (if_pos hc24).symm.trans hf
        refine rp_tableIn (tgt := 165) (off := 96) X d_L_law_69 (by rw [hc24]; decide) (by rw [hc24]; decide) (by rw [hc24]; decide) (by decide) ?_
        refine rp_aload_n X d_L_law_165 rfl 1 rfl ?_
        refine rp_aload_n X d_L_law_166 rfl 0 rfl ?_
        refine rp_iload X d_L_law_167 4 rfl ?_
        refine rp_iconst (v := 1) X d_L_law_169 (by decide) ?_
        refine rp_iadd X d_L_law_170 ?_
        obtain ⟨x25, h26, hf⟩ := obind hf
        refine rp_sld X hX hbl hbA h26 d_L_law_171 ?_
        obtain ⟨x28, h27, hf⟩ := obind hf
        obtain ⟨x31, σ30, h29, hf⟩ := pbind hf
        refine rp_callV (st := []) X [tI (xs x25)] (ci := 0) h27 (Nat.le_of_ble_eq_true rfl) q293 q294 q295 (c_W_has v1 (xs x25) h29) q296 q1 y_W_has_ok rfl ⟨Nat.le_of_ble_eq_true rfl, Nat.le_of_ble_eq_true rfl⟩ (Nat.le_of_ble_eq_true rfl) ⟨by show kc + 0 + 0 ≤ 601024; omega, by show ks + 0 + 0 ≤ 7293000; omega⟩ d_L_law_172 ?_
        refine rp_widen (kc2 := kc + 0) (ks2 := ks + 0) (Nat.le_refl _) (Nat.le_refl _) ?_
        refine rp_aload_n X d_L_law_175 rfl 2 rfl ?_
        refine rp_aload_n X d_L_law_176 rfl 0 rfl ?_
        refine rp_iload X d_L_law_177 4 rfl ?_
        refine rp_iconst (v := 1) X d_L_law_179 (by decide) ?_
        refine rp_iadd X d_L_law_180 ?_
        obtain ⟨x32, h33, hf⟩ := obind hf
        refine rp_sld X hX hbl hbA h33 d_L_law_181 ?_
        refine rp_swap ?_
        obtain ⟨x35, h34, hf⟩ := obind hf
        obtain ⟨x38, τ37, h36, hf⟩ := pbind hf
        refine rp_callV (st := [tI x31]) X [tI (xs x32)] (ci := 11) h34 (Nat.le_of_ble_eq_true rfl) q882 q883 q884 (c_M_has v2 (xs x32) h36) q885 q11 y_M_has_ok rfl ⟨Nat.le_of_ble_eq_true rfl, Nat.le_of_ble_eq_true rfl⟩ (Nat.le_of_ble_eq_true rfl) ⟨by show kc + 0 + 0 ≤ 601024; omega, by show ks + 0 + 0 ≤ 7293000; omega⟩ d_L_law_182 ?_
        refine rp_swap ?_
        refine rp_widen (kc2 := kc + 0) (ks2 := ks + 0) (Nat.le_refl _) (Nat.le_refl _) ?_
        refine rp_icmp_eq (tgt := 681) X d_L_law_185 (by decide) (fun hc39 => ?_) (fun hc39 => ?_)
        · have hf := (if_pos hc39).symm.trans hf
          refine rp_widen (kc2 := kc + 1) (ks2 := ks + 11) (Nat.add_le_add_left (Nat.le_of_ble_eq_true rfl) _) (Nat.add_le_add_left (Nat.le_of_ble_eq_true rfl) _) ?_
          refine rp_sub [0, 1, 2, 3, 4] (lv' := [(0, tR (some b)), (1, tR v1), (2, tR v2), (3, tR v3), (4, tI v4)]) rfl ?_
          exact b_L_law_681 hfl X hX hbl hret hlk hL n kc ks hkc hks (f_L_law_53 n xs L i) hrec v1 v2 v3 v4 ((bmp (hp_N τ37) σ30)) τ37 hf
        · have hf := (if_neg hc39).symm.trans hf
          refine rp_iconst (v := 0) X d_L_law_188 (by decide) ?_
          exact absurd hf (by decide)
      have hf := (if_neg hc24).symm.trans hf
      by_cases hc40 : ((xs x6) &&& 15) = 2
      · have hf := (if_pos hc40).symm.trans hf
        refine rp_tableIn (tgt := 190) (off := 121) X d_L_law_69 (by rw [hc40]; decide) (by rw [hc40]; decide) (by rw [hc40]; decide) (by decide) ?_
        refine rp_aload_n X d_L_law_190 rfl 1 rfl ?_
        refine rp_aload_n X d_L_law_191 rfl 0 rfl ?_
        refine rp_iload X d_L_law_192 4 rfl ?_
        refine rp_iconst (v := 1) X d_L_law_194 (by decide) ?_
        refine rp_iadd X d_L_law_195 ?_
        obtain ⟨x41, h42, hf⟩ := obind hf
        refine rp_sld X hX hbl hbA h42 d_L_law_196 ?_
        refine rp_aload_n X d_L_law_197 rfl 0 rfl ?_
        refine rp_iload X d_L_law_198 4 rfl ?_
        refine rp_iconst (v := 2) X d_L_law_200 (by decide) ?_
        refine rp_iadd X d_L_law_201 ?_
        obtain ⟨x43, h44, hf⟩ := obind hf
        refine rp_sld X hX hbl hbA h44 d_L_law_202 ?_
        refine rp_aload_n X d_L_law_203 rfl 0 rfl ?_
        refine rp_iload X d_L_law_204 4 rfl ?_
        refine rp_iconst (v := 3) X d_L_law_206 (by decide) ?_
        refine rp_iadd X d_L_law_207 ?_
        obtain ⟨x45, h46, hf⟩ := obind hf
        refine rp_sld X hX hbl hbA h46 d_L_law_208 ?_
        refine rp_aload_n X d_L_law_209 rfl 0 rfl ?_
        refine rp_iload X d_L_law_210 4 rfl ?_
        refine rp_iconst (v := 4) X d_L_law_212 (by decide) ?_
        refine rp_iadd X d_L_law_213 ?_
        obtain ⟨x47, h48, hf⟩ := obind hf
        refine rp_sld X hX hbl hbA h48 d_L_law_214 ?_
        refine rp_aload_n X d_L_law_215 rfl 3 rfl ?_
        obtain ⟨x51, σ50, h49, hf⟩ := pbind hf
        refine rp_callSW (st := []) X [tR v1, tI (xs x41), tI (xs x43), tI (xs x45), tI (xs x47), tR v3] q512 q513 (c_L_put hfl n v1 (xs x41) (xs x43) (xs x45) (xs x47) v3 h49) q514 q0 y_L_put_ok rfl ⟨Nat.le_of_ble_eq_true rfl, Nat.le_of_ble_eq_true rfl⟩ (Nat.le_of_ble_eq_true rfl) ⟨by show kc + 0 + 1 ≤ 601024; omega, by show ks + 0 + 11 ≤ 7293000; omega⟩ d_L_law_216 ?_
        refine rp_widen (kc2 := kc + 1) (ks2 := ks + 11) (Nat.le_refl _) (Nat.le_refl _) ?_
        refine rp_istore (lv' := [(0, tR (some b)), (1, tR v1), (2, tR v2), (3, tR v3), (4, tI v4), (5, tI x51)]) X [1, 2, 3, 4, 5, 0] d_L_law_219 (Nat.le_of_ble_eq_true rfl) rfl ?_
        refine rp_aload_n X d_L_law_221 rfl 2 rfl ?_
        refine rp_aload_n X d_L_law_222 rfl 0 rfl ?_
        refine rp_iload X d_L_law_223 4 rfl ?_
        refine rp_iconst (v := 1) X d_L_law_225 (by decide) ?_
        refine rp_iadd X d_L_law_226 ?_
        obtain ⟨x52, h53, hf⟩ := obind hf
        refine rp_sld X hX hbl hbA h53 d_L_law_227 ?_
        refine rp_aload_n X d_L_law_228 rfl 0 rfl ?_
        refine rp_iload X d_L_law_229 4 rfl ?_
        refine rp_iconst (v := 2) X d_L_law_231 (by decide) ?_
        refine rp_iadd X d_L_law_232 ?_
        obtain ⟨x54, h55, hf⟩ := obind hf
        refine rp_sld X hX hbl hbA h55 d_L_law_233 ?_
        refine rp_aload_n X d_L_law_234 rfl 0 rfl ?_
        refine rp_iload X d_L_law_235 4 rfl ?_
        refine rp_iconst (v := 3) X d_L_law_237 (by decide) ?_
        refine rp_iadd X d_L_law_238 ?_
        obtain ⟨x56, h57, hf⟩ := obind hf
        refine rp_sld X hX hbl hbA h57 d_L_law_239 ?_
        refine rp_aload_n X d_L_law_240 rfl 0 rfl ?_
        refine rp_iload X d_L_law_241 4 rfl ?_
        refine rp_iconst (v := 4) X d_L_law_243 (by decide) ?_
        refine rp_iadd X d_L_law_244 ?_
        obtain ⟨x58, h59, hf⟩ := obind hf
        refine rp_sld X hX hbl hbA h59 d_L_law_245 ?_
        refine rp_swap ?_
        obtain ⟨x61, h60, hf⟩ := obind hf
        obtain ⟨x64, τ63, h62, hf⟩ := pbind hf
        refine rp_callV (st := []) X [tI (xs x52), tI (xs x54), tI (xs x56), tI (xs x58)] (ci := 11) h60 (Nat.le_of_ble_eq_true rfl) q886 q887 q888 (c_M_put n v2 (xs x52) (xs x54) (xs x56) (xs x58) h62) q889 q11 y_M_put_ok rfl ⟨Nat.le_of_ble_eq_true rfl, Nat.le_of_ble_eq_true rfl⟩ (Nat.le_of_ble_eq_true rfl) ⟨by show kc + 1 + 0 ≤ 601024; omega, by show ks + 11 + 0 ≤ 7293000; omega⟩ d_L_law_246 ?_
        refine rp_swap ?_
        refine rp_widen (kc2 := kc + 1) (ks2 := ks + 11) (Nat.le_refl _) (Nat.le_refl _) ?_
        refine rp_istore (lv' := [(0, tR (some b)), (1, tR v1), (2, tR v2), (3, tR v3), (4, tI v4), (5, tI x51), (6, tI x64)]) X [1, 2, 3, 4, 5, 6, 0] d_L_law_249 (Nat.le_of_ble_eq_true rfl) rfl ?_
        refine rp_aload_n X d_L_law_251 rfl 2 rfl ?_
        refine rp_swap ?_
        obtain ⟨x66, h65, hf⟩ := obind hf
        obtain ⟨x69, τ68, h67, hf⟩ := pbind hf
        refine rp_callV (st := []) X [] (ci := 11) h65 (Nat.le_of_ble_eq_true rfl) q854 q855 q856 (c_M_thrown v2 h67) q857 q11 y_M_thrown_ok rfl ⟨Nat.le_of_ble_eq_true rfl, Nat.le_of_ble_eq_true rfl⟩ (Nat.le_of_ble_eq_true rfl) ⟨by show kc + 1 + 0 ≤ 601024; omega, by show ks + 11 + 0 ≤ 7293000; omega⟩ d_L_law_252 ?_
        refine rp_swap ?_
        refine rp_widen (kc2 := kc + 1) (ks2 := ks + 11) (Nat.le_refl _) (Nat.le_refl _) ?_
        refine rp_iload X d_L_law_255 5 rfl ?_
        refine rp_icmp_eq (tgt := 262) X d_L_law_257 (by decide) (fun hc70 => ?_) (fun hc70 => ?_)
        · have hf := (if_pos hc70).symm.trans hf
          refine rp_iload X d_L_law_262 5 rfl ?_
          refine rp_if_ne (tgt := 286) X d_L_law_264 (by decide) (fun hc71 => ?_) (fun hc71 => ?_)
          · have hf := (if_neg hc71).symm.trans hf
            refine rp_widen (kc2 := kc + 1) (ks2 := ks + 11) (Nat.add_le_add_left (Nat.le_of_ble_eq_true rfl) _) (Nat.add_le_add_left (Nat.le_of_ble_eq_true rfl) _) ?_
            refine rp_sub [0, 1, 2, 3, 4] (lv' := [(0, tR (some b)), (1, tR v1), (2, tR v2), (3, tR v3), (4, tI v4)]) rfl ?_
            exact b_L_law_286 hfl X hX hbl hret hlk hL n kc ks hkc hks (f_L_law_53 n xs L i) hrec v1 v2 v3 v4 ((bmp (hp_N τ68) ((bmp (hp_N τ63) σ50)))) τ68 hf
          · have hf := (if_pos hc71).symm.trans hf
            refine rp_aload_n X d_L_law_267 rfl 3 rfl ?_
            refine rp_iconst (v := 0) X d_L_law_268 (by decide) ?_
            obtain ⟨x72, h73, hf⟩ := obind hf
            refine rp_al_L X h73 d_L_law_269 ?_
            refine rp_iload X d_L_law_270 6 rfl ?_
            refine rp_if_eq (tgt := 279) X d_L_law_272 (by decide) (fun hc74 => ?_) (fun hc74 => ?_)
            · have hf := (if_pos hc74).symm.trans hf
              refine rp_lconst (v := 0) X d_L_law_279 (by decide) ?_
              refine rp_widen (kc2 := kc + 1) (ks2 := ks + 11) (Nat.add_le_add_left (Nat.le_of_ble_eq_true rfl) _) (Nat.add_le_add_left (Nat.le_of_ble_eq_true rfl) _) ?_
              refine rp_sub [0, 1, 2, 3, 4] (lv' := [(0, tR (some b)), (1, tR v1), (2, tR v2), (3, tR v3), (4, tI v4)]) rfl ?_
              exact b_L_law_280 hfl X hX hbl hret hlk hL n kc ks hkc hks (f_L_law_53 n xs L i) hrec v1 v2 v3 v4 0 x72 ((bmp (hp_N τ68) ((bmp (hp_N τ63) σ50)))) τ68 hf
            · have hf := (if_neg hc74).symm.trans hf
              refine rp_lconst (v := 1) X d_L_law_275 (by decide) ?_
              refine rp_goto (tgt := 280) X d_L_law_276 (by decide) ?_
              refine rp_widen (kc2 := kc + 1) (ks2 := ks + 11) (Nat.add_le_add_left (Nat.le_of_ble_eq_true rfl) _) (Nat.add_le_add_left (Nat.le_of_ble_eq_true rfl) _) ?_
              refine rp_sub [0, 1, 2, 3, 4] (lv' := [(0, tR (some b)), (1, tR v1), (2, tR v2), (3, tR v3), (4, tI v4)]) rfl ?_
              exact b_L_law_280 hfl X hX hbl hret hlk hL n kc ks hkc hks (f_L_law_53 n xs L i) hrec v1 v2 v3 v4 1 x72 ((bmp (hp_N τ68) ((bmp (hp_N τ63) σ50)))) τ68 hf
        · have hf := (if_neg hc70).symm.trans hf
          refine rp_iconst (v := 0) X d_L_law_260 (by decide) ?_
          exact absurd hf (by decide)
      have hf := (if_neg hc40).symm.trans hf
      by_cases hc76 : ((xs x6) &&& 15) = 3
      · have hf := (if_pos hc76).symm.trans hf
        refine rp_tableIn (tgt := 289) (off := 220) X d_L_law_69 (by rw [hc76]; decide) (by rw [hc76]; decide) (by rw [hc76]; decide) (by decide) ?_
        refine rp_aload_n X d_L_law_289 rfl 1 rfl ?_
        refine rp_aload_n X d_L_law_290 rfl 0 rfl ?_
        refine rp_iload X d_L_law_291 4 rfl ?_
        refine rp_iconst (v := 1) X d_L_law_293 (by decide) ?_
        refine rp_iadd X d_L_law_294 ?_
        obtain ⟨x77, h78, hf⟩ := obind hf
        refine rp_sld X hX hbl hbA h78 d_L_law_295 ?_
        obtain ⟨x80, h79, hf⟩ := obind hf
        obtain ⟨x83, σ82, h81, hf⟩ := pbind hf
        refine rp_callV (st := []) X [tI (xs x77)] (ci := 0) h79 (Nat.le_of_ble_eq_true rfl) q301 q302 q303 (c_W_remove n v1 (xs x77) h81) q304 q1 y_W_remove_ok rfl ⟨Nat.le_of_ble_eq_true rfl, Nat.le_of_ble_eq_true rfl⟩ (Nat.le_of_ble_eq_true rfl) ⟨by show kc + 0 + 0 ≤ 601024; omega, by show ks + 0 + 0 ≤ 7293000; omega⟩ d_L_law_296 ?_
        refine rp_widen (kc2 := kc + 0) (ks2 := ks + 0) (Nat.le_refl _) (Nat.le_refl _) ?_
        refine rp_aload_n X d_L_law_299 rfl 2 rfl ?_
        refine rp_aload_n X d_L_law_300 rfl 0 rfl ?_
        refine rp_iload X d_L_law_301 4 rfl ?_
        refine rp_iconst (v := 1) X d_L_law_303 (by decide) ?_
        refine rp_iadd X d_L_law_304 ?_
        obtain ⟨x84, h85, hf⟩ := obind hf
        refine rp_sld X hX hbl hbA h85 d_L_law_305 ?_
        refine rp_swap ?_
        obtain ⟨x87, h86, hf⟩ := obind hf
        obtain ⟨x90, τ89, h88, hf⟩ := pbind hf
        refine rp_callV (st := [tI x83]) X [tI (xs x84)] (ci := 11) h86 (Nat.le_of_ble_eq_true rfl) q979 q980 q981 (c_M_remove n v2 (xs x84) h88) q982 q11 y_M_remove_ok rfl ⟨Nat.le_of_ble_eq_true rfl, Nat.le_of_ble_eq_true rfl⟩ (Nat.le_of_ble_eq_true rfl) ⟨by show kc + 0 + 0 ≤ 601024; omega, by show ks + 0 + 0 ≤ 7293000; omega⟩ d_L_law_306 ?_
        refine rp_swap ?_
        refine rp_widen (kc2 := kc + 0) (ks2 := ks + 0) (Nat.le_refl _) (Nat.le_refl _) ?_
        refine rp_icmp_eq (tgt := 681) X d_L_law_309 (by decide) (fun hc91 => ?_) (fun hc91 => ?_)
        · have hf := (if_pos hc91).symm.trans hf
          refine rp_widen (kc2 := kc + 1) (ks2 := ks + 11) (Nat.add_le_add_left (Nat.le_of_ble_eq_true rfl) _) (Nat.add_le_add_left (Nat.le_of_ble_eq_true rfl) _) ?_
          refine rp_sub [0, 1, 2, 3, 4] (lv' := [(0, tR (some b)), (1, tR v1), (2, tR v2), (3, tR v3), (4, tI v4)]) rfl ?_
          exact b_L_law_681 hfl X hX hbl hret hlk hL n kc ks hkc hks (f_L_law_53 n xs L i) hrec v1 v2 v3 v4 ((bmp (hp_N τ89) σ82)) τ89 hf
        · have hf := (if_neg hc91).symm.trans hf
          refine rp_iconst (v := 0) X d_L_law_312 (by decide) ?_
          exact absurd hf (by decide)
      have hf := (if_neg hc76).symm.trans hf
      by_cases hc92 : ((xs x6) &&& 15) = 4
      · have hf := (if_pos hc92).symm.trans hf
        refine rp_tableIn (tgt := 314) (off := 245) X d_L_law_69 (by rw [hc92]; decide) (by rw [hc92]; decide) (by rw [hc92]; decide) (by decide) ?_
        refine rp_aload_n X d_L_law_314 rfl 1 rfl ?_
        refine rp_aload_n X d_L_law_315 rfl 0 rfl ?_
        refine rp_iload X d_L_law_316 4 rfl ?_
        refine rp_iconst (v := 1) X d_L_law_318 (by decide) ?_
        refine rp_iadd X d_L_law_319 ?_
        obtain ⟨x93, h94, hf⟩ := obind hf
        refine rp_sld X hX hbl hbA h94 d_L_law_320 ?_
        refine rp_aload_n X d_L_law_321 rfl 3 rfl ?_
        obtain ⟨x97, σ96, h95, hf⟩ := pbind hf
        refine rp_callSW (st := []) X [tR v1, tI (xs x93), tR v3] q648 q649 (c_L_load hfl v1 (xs x93) v3 h95) q650 q0 y_L_load_ok rfl ⟨Nat.le_of_ble_eq_true rfl, Nat.le_of_ble_eq_true rfl⟩ (Nat.le_of_ble_eq_true rfl) ⟨by show kc + 0 + 1 ≤ 601024; omega, by show ks + 0 + 6 ≤ 7293000; omega⟩ d_L_law_322 ?_
        refine rp_widen (kc2 := kc + 1) (ks2 := ks + 6) (Nat.le_refl _) (Nat.le_refl _) ?_
        refine rp_istore (lv' := [(0, tR (some b)), (1, tR v1), (2, tR v2), (3, tR v3), (4, tI v4), (5, tI x97)]) X [1, 2, 3, 4, 5, 0] d_L_law_325 (Nat.le_of_ble_eq_true rfl) rfl ?_
        refine rp_aload_n X d_L_law_327 rfl 2 rfl ?_
        refine rp_aload_n X d_L_law_328 rfl 0 rfl ?_
        refine rp_iload X d_L_law_329 4 rfl ?_
        refine rp_iconst (v := 1) X d_L_law_331 (by decide) ?_
        refine rp_iadd X d_L_law_332 ?_
        obtain ⟨x98, h99, hf⟩ := obind hf
        refine rp_sld X hX hbl hbA h99 d_L_law_333 ?_
        refine rp_swap ?_
        obtain ⟨x101, h100, hf⟩ := obind hf
        obtain ⟨x104, τ103, h102, hf⟩ := pbind hf
        refine rp_callV (st := []) X [tI (xs x98)] (ci := 11) h100 (Nat.le_of_ble_eq_true rfl) q983 q984 q985 (c_M_load v2 (xs x98) h102) q986 q11 y_M_load_ok rfl ⟨Nat.le_of_ble_eq_true rfl, Nat.le_of_ble_eq_true rfl⟩ (Nat.le_of_ble_eq_true rfl) ⟨by show kc + 1 + 0 ≤ 601024; omega, by show ks + 6 + 0 ≤ 7293000; omega⟩ d_L_law_334 ?_
        refine rp_swap ?_
        refine rp_widen (kc2 := kc + 1) (ks2 := ks + 6) (Nat.le_refl _) (Nat.le_refl _) ?_
        refine rp_istore (lv' := [(0, tR (some b)), (1, tR v1), (2, tR v2), (3, tR v3), (4, tI v4), (5, tI x97), (6, tI x104)]) X [1, 2, 3, 4, 5, 6, 0] d_L_law_337 (Nat.le_of_ble_eq_true rfl) rfl ?_
        refine rp_aload_n X d_L_law_339 rfl 2 rfl ?_
        refine rp_swap ?_
        obtain ⟨x106, h105, hf⟩ := obind hf
        obtain ⟨x109, τ108, h107, hf⟩ := pbind hf
        refine rp_callV (st := []) X [] (ci := 11) h105 (Nat.le_of_ble_eq_true rfl) q854 q855 q856 (c_M_thrown v2 h107) q857 q11 y_M_thrown_ok rfl ⟨Nat.le_of_ble_eq_true rfl, Nat.le_of_ble_eq_true rfl⟩ (Nat.le_of_ble_eq_true rfl) ⟨by show kc + 1 + 0 ≤ 601024; omega, by show ks + 6 + 0 ≤ 7293000; omega⟩ d_L_law_340 ?_
        refine rp_swap ?_
        refine rp_widen (kc2 := kc + 1) (ks2 := ks + 6) (Nat.le_refl _) (Nat.le_refl _) ?_
        refine rp_iload X d_L_law_343 5 rfl ?_
        refine rp_icmp_eq (tgt := 350) X d_L_law_345 (by decide) (fun hc110 => ?_) (fun hc110 => ?_)
        · have hf := (if_pos hc110).symm.trans hf
          refine rp_iload X d_L_law_350 5 rfl ?_
          refine rp_if_ne (tgt := 367) X d_L_law_352 (by decide) (fun hc111 => ?_) (fun hc111 => ?_)
          · have hf := (if_neg hc111).symm.trans hf
            refine rp_widen (kc2 := kc + 1) (ks2 := ks + 6) (Nat.add_le_add_left (Nat.le_of_ble_eq_true rfl) _) (Nat.add_le_add_left (Nat.le_of_ble_eq_true rfl) _) ?_
            refine rp_sub [0, 1, 2, 3, 4] (lv' := [(0, tR (some b)), (1, tR v1), (2, tR v2), (3, tR v3), (4, tI v4)]) rfl ?_
            exact b_L_law_367 hfl X hX hbl hret hlk hL n kc ks hkc hks (f_L_law_53 n xs L i) hrec v1 v2 v3 v4 ((bmp (hp_N τ108) ((bmp (hp_N τ103) σ96)))) τ108 hf
          · have hf := (if_pos hc111).symm.trans hf
            refine rp_aload_n X d_L_law_355 rfl 3 rfl ?_
            refine rp_iconst (v := 0) X d_L_law_356 (by decide) ?_
            obtain ⟨x112, h113, hf⟩ := obind hf
            refine rp_al_L X h113 d_L_law_357 ?_
            refine rp_iload X d_L_law_358 6 rfl ?_
            refine rp_i2l X d_L_law_360 ?_
            refine rp_lcmp X d_L_law_361 ?_
            refine rp_if_eq (tgt := 367) X d_L_law_362 (by decide) (fun hc114 => ?_) (fun hc114 => ?_)
            · have hf := (if_pos hc114).symm.trans hf
              refine rp_widen (kc2 := kc + 1) (ks2 := ks + 6) (Nat.add_le_add_left (Nat.le_of_ble_eq_true rfl) _) (Nat.add_le_add_left (Nat.le_of_ble_eq_true rfl) _) ?_
              refine rp_sub [0, 1, 2, 3, 4] (lv' := [(0, tR (some b)), (1, tR v1), (2, tR v2), (3, tR v3), (4, tI v4)]) rfl ?_
              exact b_L_law_367 hfl X hX hbl hret hlk hL n kc ks hkc hks (f_L_law_53 n xs L i) hrec v1 v2 v3 v4 ((bmp (hp_N τ108) ((bmp (hp_N τ103) σ96)))) τ108 hf
            · have hf := (if_neg hc114).symm.trans hf
              refine rp_iconst (v := 0) X d_L_law_365 (by decide) ?_
              exact absurd hf (by decide)
        · have hf := (if_neg hc110).symm.trans hf
          refine rp_iconst (v := 0) X d_L_law_348 (by decide) ?_
          exact absurd hf (by decide)
      have hf := (if_neg hc92).symm.trans hf
      by_cases hc115 : ((xs x6) &&& 15) = 5
      · have hf := (if_pos hc115).symm.trans hf
        refine rp_tableIn (tgt := 370) (off := 301) X d_L_law_69 (by rw [hc115]; decide) (by rw [hc115]; decide) (by rw [hc115]; decide) (by decide) ?_
        refine rp_aload_n X d_L_law_370 rfl 1 rfl ?_
        refine rp_aload_n X d_L_law_371 rfl 0 rfl ?_
        refine rp_iload X d_L_law_372 4 rfl ?_
        refine rp_iconst (v := 1) X d_L_law_374 (by decide) ?_
        refine rp_iadd X d_L_law_375 ?_
        obtain ⟨x116, h117, hf⟩ := obind hf
        refine rp_sld X hX hbl hbA h117 d_L_law_376 ?_
        obtain ⟨x119, h118, hf⟩ := obind hf
        obtain ⟨x122, σ121, h120, hf⟩ := pbind hf
        refine rp_callV (st := []) X [tI (xs x116)] (ci := 0) h118 (Nat.le_of_ble_eq_true rfl) q449 q450 q451 (c_W_refresh v1 (xs x116) h120) q452 q1 y_W_refresh_ok rfl ⟨Nat.le_of_ble_eq_true rfl, Nat.le_of_ble_eq_true rfl⟩ (Nat.le_of_ble_eq_true rfl) ⟨by show kc + 0 + 1 ≤ 601024; omega, by show ks + 0 + 2 ≤ 7293000; omega⟩ d_L_law_377 ?_
        refine rp_widen (kc2 := kc + 1) (ks2 := ks + 2) (Nat.le_refl _) (Nat.le_refl _) ?_
        refine rp_aload_n X d_L_law_380 rfl 2 rfl ?_
        refine rp_aload_n X d_L_law_381 rfl 0 rfl ?_
        refine rp_iload X d_L_law_382 4 rfl ?_
        refine rp_iconst (v := 1) X d_L_law_384 (by decide) ?_
        refine rp_iadd X d_L_law_385 ?_
        obtain ⟨x123, h124, hf⟩ := obind hf
        refine rp_sld X hX hbl hbA h124 d_L_law_386 ?_
        refine rp_swap ?_
        obtain ⟨x126, h125, hf⟩ := obind hf
        obtain ⟨x129, τ128, h127, hf⟩ := pbind hf
        refine rp_callV (st := [tI x122]) X [tI (xs x123)] (ci := 11) h125 (Nat.le_of_ble_eq_true rfl) q987 q988 q989 (c_M_refresh v2 (xs x123) h127) q990 q11 y_M_refresh_ok rfl ⟨Nat.le_of_ble_eq_true rfl, Nat.le_of_ble_eq_true rfl⟩ (Nat.le_of_ble_eq_true rfl) ⟨by show kc + 1 + 0 ≤ 601024; omega, by show ks + 2 + 0 ≤ 7293000; omega⟩ d_L_law_387 ?_
        refine rp_swap ?_
        refine rp_widen (kc2 := kc + 1) (ks2 := ks + 2) (Nat.le_refl _) (Nat.le_refl _) ?_
        refine rp_icmp_eq (tgt := 681) X d_L_law_390 (by decide) (fun hc130 => ?_) (fun hc130 => ?_)
        · have hf := (if_pos hc130).symm.trans hf
          refine rp_widen (kc2 := kc + 1) (ks2 := ks + 11) (Nat.add_le_add_left (Nat.le_of_ble_eq_true rfl) _) (Nat.add_le_add_left (Nat.le_of_ble_eq_true rfl) _) ?_
          refine rp_sub [0, 1, 2, 3, 4] (lv' := [(0, tR (some b)), (1, tR v1), (2, tR v2), (3, tR v3), (4, tI v4)]) rfl ?_
          exact b_L_law_681 hfl X hX hbl hret hlk hL n kc ks hkc hks (f_L_law_53 n xs L i) hrec v1 v2 v3 v4 ((bmp (hp_N τ128) σ121)) τ128 hf
        · have hf := (if_neg hc130).symm.trans hf
          refine rp_iconst (v := 0) X d_L_law_393 (by decide) ?_
          exact absurd hf (by decide)
      have hf := (if_neg hc115).symm.trans hf
      by_cases hc131 : ((xs x6) &&& 15) = 6
      · have hf := (if_pos hc131).symm.trans hf
        refine rp_tableIn (tgt := 395) (off := 326) X d_L_law_69 (by rw [hc131]; decide) (by rw [hc131]; decide) (by rw [hc131]; decide) (by decide) ?_
        refine rp_aload_n X d_L_law_395 rfl 1 rfl ?_
        refine rp_aload_n X d_L_law_396 rfl 0 rfl ?_
        refine rp_iload X d_L_law_397 4 rfl ?_
        refine rp_iconst (v := 1) X d_L_law_399 (by decide) ?_
        refine rp_iadd X d_L_law_400 ?_
        obtain ⟨x132, h133, hf⟩ := obind hf
        refine rp_sld X hX hbl hbA h133 d_L_law_401 ?_
        refine rp_aload_n X d_L_law_402 rfl 0 rfl ?_
        refine rp_iload X d_L_law_403 4 rfl ?_
        refine rp_iconst (v := 2) X d_L_law_405 (by decide) ?_
        refine rp_iadd X d_L_law_406 ?_
        obtain ⟨x134, h135, hf⟩ := obind hf
        refine rp_sld X hX hbl hbA h135 d_L_law_407 ?_
        refine rp_aload_n X d_L_law_408 rfl 0 rfl ?_
        refine rp_iload X d_L_law_409 4 rfl ?_
        refine rp_iconst (v := 3) X d_L_law_411 (by decide) ?_
        refine rp_iadd X d_L_law_412 ?_
        obtain ⟨x136, h137, hf⟩ := obind hf
        refine rp_sld X hX hbl hbA h137 d_L_law_413 ?_
        refine rp_aload_n X d_L_law_414 rfl 3 rfl ?_
        obtain ⟨x140, σ139, h138, hf⟩ := pbind hf
        refine rp_callSW (st := []) X [tR v1, tI (xs x132), tI (xs x134), tI (xs x136), tR v3] q671 q672 (c_L_finish hfl n v1 (xs x132) (xs x134) (xs x136) v3 h138) q673 q0 y_L_finish_ok rfl ⟨Nat.le_of_ble_eq_true rfl, Nat.le_of_ble_eq_true rfl⟩ (Nat.le_of_ble_eq_true rfl) ⟨by show kc + 0 + 1 ≤ 601024; omega, by show ks + 0 + 11 ≤ 7293000; omega⟩ d_L_law_415 ?_
        refine rp_widen (kc2 := kc + 1) (ks2 := ks + 11) (Nat.le_refl _) (Nat.le_refl _) ?_
        refine rp_istore (lv' := [(0, tR (some b)), (1, tR v1), (2, tR v2), (3, tR v3), (4, tI v4), (5, tI x140)]) X [1, 2, 3, 4, 5, 0] d_L_law_418 (Nat.le_of_ble_eq_true rfl) rfl ?_
        refine rp_aload_n X d_L_law_420 rfl 2 rfl ?_
        refine rp_aload_n X d_L_law_421 rfl 0 rfl ?_
        refine rp_iload X d_L_law_422 4 rfl ?_
        refine rp_iconst (v := 1) X d_L_law_424 (by decide) ?_
        refine rp_iadd X d_L_law_425 ?_
        obtain ⟨x141, h142, hf⟩ := obind hf
        refine rp_sld X hX hbl hbA h142 d_L_law_426 ?_
        refine rp_aload_n X d_L_law_427 rfl 0 rfl ?_
        refine rp_iload X d_L_law_428 4 rfl ?_
        refine rp_iconst (v := 2) X d_L_law_430 (by decide) ?_
        refine rp_iadd X d_L_law_431 ?_
        obtain ⟨x143, h144, hf⟩ := obind hf
        refine rp_sld X hX hbl hbA h144 d_L_law_432 ?_
        refine rp_aload_n X d_L_law_433 rfl 0 rfl ?_
        refine rp_iload X d_L_law_434 4 rfl ?_
        refine rp_iconst (v := 3) X d_L_law_436 (by decide) ?_
        refine rp_iadd X d_L_law_437 ?_
        obtain ⟨x145, h146, hf⟩ := obind hf
        refine rp_sld X hX hbl hbA h146 d_L_law_438 ?_
        refine rp_swap ?_
        obtain ⟨x148, h147, hf⟩ := obind hf
        obtain ⟨x151, τ150, h149, hf⟩ := pbind hf
        refine rp_callV (st := []) X [tI (xs x141), tI (xs x143), tI (xs x145)] (ci := 11) h147 (Nat.le_of_ble_eq_true rfl) q991 q992 q993 (c_M_finish n v2 (xs x141) (xs x143) (xs x145) h149) q994 q11 y_M_finish_ok rfl ⟨Nat.le_of_ble_eq_true rfl, Nat.le_of_ble_eq_true rfl⟩ (Nat.le_of_ble_eq_true rfl) ⟨by show kc + 1 + 0 ≤ 601024; omega, by show ks + 11 + 0 ≤ 7293000; omega⟩ d_L_law_439 ?_
        refine rp_swap ?_
        refine rp_widen (kc2 := kc + 1) (ks2 := ks + 11) (Nat.le_refl _) (Nat.le_refl _) ?_
        refine rp_istore (lv' := [(0, tR (some b)), (1, tR v1), (2, tR v2), (3, tR v3), (4, tI v4), (5, tI x140), (6, tI x151)]) X [1, 2, 3, 4, 5, 6, 0] d_L_law_442 (Nat.le_of_ble_eq_true rfl) rfl ?_
        refine rp_aload_n X d_L_law_444 rfl 2 rfl ?_
        refine rp_swap ?_
        obtain ⟨x153, h152, hf⟩ := obind hf
        obtain ⟨x156, τ155, h154, hf⟩ := pbind hf
        refine rp_callV (st := []) X [] (ci := 11) h152 (Nat.le_of_ble_eq_true rfl) q854 q855 q856 (c_M_thrown v2 h154) q857 q11 y_M_thrown_ok rfl ⟨Nat.le_of_ble_eq_true rfl, Nat.le_of_ble_eq_true rfl⟩ (Nat.le_of_ble_eq_true rfl) ⟨by show kc + 1 + 0 ≤ 601024; omega, by show ks + 11 + 0 ≤ 7293000; omega⟩ d_L_law_445 ?_
        refine rp_swap ?_
        refine rp_widen (kc2 := kc + 1) (ks2 := ks + 11) (Nat.le_refl _) (Nat.le_refl _) ?_
        refine rp_iload X d_L_law_448 5 rfl ?_
        refine rp_icmp_eq (tgt := 455) X d_L_law_450 (by decide) (fun hc157 => ?_) (fun hc157 => ?_)
        · have hf := (if_pos hc157).symm.trans hf
          refine rp_iload X d_L_law_455 5 rfl ?_
          refine rp_if_ne (tgt := 479) X d_L_law_457 (by decide) (fun hc158 => ?_) (fun hc158 => ?_)
          · have hf := (if_neg hc158).symm.trans hf
            refine rp_widen (kc2 := kc + 1) (ks2 := ks + 11) (Nat.add_le_add_left (Nat.le_of_ble_eq_true rfl) _) (Nat.add_le_add_left (Nat.le_of_ble_eq_true rfl) _) ?_
            refine rp_sub [0, 1, 2, 3, 4] (lv' := [(0, tR (some b)), (1, tR v1), (2, tR v2), (3, tR v3), (4, tI v4)]) rfl ?_
            exact b_L_law_479 hfl X hX hbl hret hlk hL n kc ks hkc hks (f_L_law_53 n xs L i) hrec v1 v2 v3 v4 ((bmp (hp_N τ155) ((bmp (hp_N τ150) σ139)))) τ155 hf
          · have hf := (if_pos hc158).symm.trans hf
            refine rp_aload_n X d_L_law_460 rfl 3 rfl ?_
            refine rp_iconst (v := 0) X d_L_law_461 (by decide) ?_
            obtain ⟨x159, h160, hf⟩ := obind hf
            refine rp_al_L X h160 d_L_law_462 ?_
            refine rp_iload X d_L_law_463 6 rfl ?_
            refine rp_if_eq (tgt := 472) X d_L_law_465 (by decide) (fun hc161 => ?_) (fun hc161 => ?_)
            · have hf := (if_pos hc161).symm.trans hf
              refine rp_lconst (v := 0) X d_L_law_472 (by decide) ?_
              refine rp_widen (kc2 := kc + 1) (ks2 := ks + 11) (Nat.add_le_add_left (Nat.le_of_ble_eq_true rfl) _) (Nat.add_le_add_left (Nat.le_of_ble_eq_true rfl) _) ?_
              refine rp_sub [0, 1, 2, 3, 4] (lv' := [(0, tR (some b)), (1, tR v1), (2, tR v2), (3, tR v3), (4, tI v4)]) rfl ?_
              exact b_L_law_473 hfl X hX hbl hret hlk hL n kc ks hkc hks (f_L_law_53 n xs L i) hrec v1 v2 v3 v4 0 x159 ((bmp (hp_N τ155) ((bmp (hp_N τ150) σ139)))) τ155 hf
            · have hf := (if_neg hc161).symm.trans hf
              refine rp_lconst (v := 1) X d_L_law_468 (by decide) ?_
              refine rp_goto (tgt := 473) X d_L_law_469 (by decide) ?_
              refine rp_widen (kc2 := kc + 1) (ks2 := ks + 11) (Nat.add_le_add_left (Nat.le_of_ble_eq_true rfl) _) (Nat.add_le_add_left (Nat.le_of_ble_eq_true rfl) _) ?_
              refine rp_sub [0, 1, 2, 3, 4] (lv' := [(0, tR (some b)), (1, tR v1), (2, tR v2), (3, tR v3), (4, tI v4)]) rfl ?_
              exact b_L_law_473 hfl X hX hbl hret hlk hL n kc ks hkc hks (f_L_law_53 n xs L i) hrec v1 v2 v3 v4 1 x159 ((bmp (hp_N τ155) ((bmp (hp_N τ150) σ139)))) τ155 hf
        · have hf := (if_neg hc157).symm.trans hf
          refine rp_iconst (v := 0) X d_L_law_453 (by decide) ?_
          exact absurd hf (by decide)
      have hf := (if_neg hc131).symm.trans hf
      by_cases hc163 : ((xs x6) &&& 15) = 7
      · have hf := (if_pos hc163).symm.trans hf
        refine rp_tableIn (tgt := 482) (off := 413) X d_L_law_69 (by rw [hc163]; decide) (by rw [hc163]; decide) (by rw [hc163]; decide) (by decide) ?_
        refine rp_aload_n X d_L_law_482 rfl 1 rfl ?_
        refine rp_aload_n X d_L_law_483 rfl 0 rfl ?_
        refine rp_iload X d_L_law_484 4 rfl ?_
        refine rp_iconst (v := 1) X d_L_law_486 (by decide) ?_
        refine rp_iadd X d_L_law_487 ?_
        obtain ⟨x164, h165, hf⟩ := obind hf
        refine rp_sld X hX hbl hbA h165 d_L_law_488 ?_
        obtain ⟨x168, σ167, h166, hf⟩ := pbind hf
        refine rp_callSW (st := []) X [tR v1, tI (xs x164)] q682 q683 (c_L_fail hfl v1 (xs x164) h166) q684 q0 y_L_fail_ok rfl ⟨Nat.le_of_ble_eq_true rfl, Nat.le_of_ble_eq_true rfl⟩ (Nat.le_of_ble_eq_true rfl) ⟨by show kc + 0 + 1 ≤ 601024; omega, by show ks + 0 + 6 ≤ 7293000; omega⟩ d_L_law_489 ?_
        refine rp_widen (kc2 := kc + 1) (ks2 := ks + 6) (Nat.le_refl _) (Nat.le_refl _) ?_
        refine rp_istore (lv' := [(0, tR (some b)), (1, tR v1), (2, tR v2), (3, tR v3), (4, tI v4), (5, tI x168)]) X [1, 2, 3, 4, 5, 0] d_L_law_492 (Nat.le_of_ble_eq_true rfl) rfl ?_
        refine rp_aload_n X d_L_law_494 rfl 2 rfl ?_
        refine rp_aload_n X d_L_law_495 rfl 0 rfl ?_
        refine rp_iload X d_L_law_496 4 rfl ?_
        refine rp_iconst (v := 1) X d_L_law_498 (by decide) ?_
        refine rp_iadd X d_L_law_499 ?_
        obtain ⟨x169, h170, hf⟩ := obind hf
        refine rp_sld X hX hbl hbA h170 d_L_law_500 ?_
        refine rp_swap ?_
        obtain ⟨x172, h171, hf⟩ := obind hf
        obtain ⟨τ174, h173, hf⟩ := obind hf
        refine rp_callV (st := []) X [tI (xs x169)] (ci := 11) h171 (Nat.le_of_ble_eq_true rfl) q995 q996 q997 (c_M_fail v2 (xs x169) h173) q998 q11 y_M_fail_ok rfl ⟨Nat.le_of_ble_eq_true rfl, Nat.le_of_ble_eq_true rfl⟩ (Nat.le_of_ble_eq_true rfl) ⟨by show kc + 1 + 0 ≤ 601024; omega, by show ks + 6 + 0 ≤ 7293000; omega⟩ d_L_law_501 ?_
        refine rp_swap ?_
        refine rp_widen (kc2 := kc + 1) (ks2 := ks + 6) (Nat.le_refl _) (Nat.le_refl _) ?_
        refine rp_aload_n X d_L_law_504 rfl 2 rfl ?_
        refine rp_swap ?_
        obtain ⟨x176, h175, hf⟩ := obind hf
        obtain ⟨x179, τ178, h177, hf⟩ := pbind hf
        refine rp_callV (st := []) X [] (ci := 11) h175 (Nat.le_of_ble_eq_true rfl) q854 q855 q856 (c_M_thrown v2 h177) q857 q11 y_M_thrown_ok rfl ⟨Nat.le_of_ble_eq_true rfl, Nat.le_of_ble_eq_true rfl⟩ (Nat.le_of_ble_eq_true rfl) ⟨by show kc + 1 + 0 ≤ 601024; omega, by show ks + 6 + 0 ≤ 7293000; omega⟩ d_L_law_505 ?_
        refine rp_swap ?_
        refine rp_widen (kc2 := kc + 1) (ks2 := ks + 6) (Nat.le_refl _) (Nat.le_refl _) ?_
        refine rp_iload X d_L_law_508 5 rfl ?_
        refine rp_icmp_eq (tgt := 515) X d_L_law_510 (by decide) (fun hc180 => ?_) (fun hc180 => ?_)
        · have hf := (if_pos hc180).symm.trans hf
          refine rp_goto (tgt := 681) X d_L_law_515 (by decide) ?_
          refine rp_widen (kc2 := kc + 1) (ks2 := ks + 11) (Nat.add_le_add_left (Nat.le_of_ble_eq_true rfl) _) (Nat.add_le_add_left (Nat.le_of_ble_eq_true rfl) _) ?_
          refine rp_sub [0, 1, 2, 3, 4] (lv' := [(0, tR (some b)), (1, tR v1), (2, tR v2), (3, tR v3), (4, tI v4)]) rfl ?_
          exact b_L_law_681 hfl X hX hbl hret hlk hL n kc ks hkc hks (f_L_law_53 n xs L i) hrec v1 v2 v3 v4 ((bmp (hp_N τ178) ((bmp (hp_N τ174) σ167)))) τ178 hf
        · have hf := (if_neg hc180).symm.trans hf
          refine rp_iconst (v := 0) X d_L_law_513 (by decide) ?_
          exact absurd hf (by decide)
      have hf := (if_neg hc163).symm.trans hf
      by_cases hc181 : ((xs x6) &&& 15) = 8
      · have hf := (if_pos hc181).symm.trans hf
        refine rp_tableIn (tgt := 518) (off := 449) X d_L_law_69 (by rw [hc181]; decide) (by rw [hc181]; decide) (by rw [hc181]; decide) (by decide) ?_
        refine rp_aload_n X d_L_law_518 rfl 1 rfl ?_
        refine rp_aload_n X d_L_law_519 rfl 0 rfl ?_
        refine rp_iload X d_L_law_520 4 rfl ?_
        refine rp_iconst (v := 1) X d_L_law_522 (by decide) ?_
        refine rp_iadd X d_L_law_523 ?_
        obtain ⟨x182, h183, hf⟩ := obind hf
        refine rp_sld X hX hbl hbA h183 d_L_law_524 ?_
        obtain ⟨x185, h184, hf⟩ := obind hf
        obtain ⟨x188, σ187, h186, hf⟩ := pbind hf
        refine rp_callV (st := []) X [tI (xs x182)] (ci := 0) h184 (Nat.le_of_ble_eq_true rfl) q467 q468 q469 (c_W_advance v1 (xs x182) h186) q470 q1 y_W_advance_ok rfl ⟨Nat.le_of_ble_eq_true rfl, Nat.le_of_ble_eq_true rfl⟩ (Nat.le_of_ble_eq_true rfl) ⟨by show kc + 0 + 0 ≤ 601024; omega, by show ks + 0 + 0 ≤ 7293000; omega⟩ d_L_law_525 ?_
        refine rp_widen (kc2 := kc + 0) (ks2 := ks + 0) (Nat.le_refl _) (Nat.le_refl _) ?_
        refine rp_aload_n X d_L_law_528 rfl 2 rfl ?_
        refine rp_aload_n X d_L_law_529 rfl 0 rfl ?_
        refine rp_iload X d_L_law_530 4 rfl ?_
        refine rp_iconst (v := 1) X d_L_law_532 (by decide) ?_
        refine rp_iadd X d_L_law_533 ?_
        obtain ⟨x189, h190, hf⟩ := obind hf
        refine rp_sld X hX hbl hbA h190 d_L_law_534 ?_
        refine rp_swap ?_
        obtain ⟨x192, h191, hf⟩ := obind hf
        obtain ⟨x195, τ194, h193, hf⟩ := pbind hf
        refine rp_callV (st := [tL x188]) X [tI (xs x189)] (ci := 11) h191 (Nat.le_of_ble_eq_true rfl) q999 q1000 q1001 (c_M_advance v2 (xs x189) h193) q1002 q11 y_M_advance_ok rfl ⟨Nat.le_of_ble_eq_true rfl, Nat.le_of_ble_eq_true rfl⟩ (Nat.le_of_ble_eq_true rfl) ⟨by show kc + 0 + 0 ≤ 601024; omega, by show ks + 0 + 0 ≤ 7293000; omega⟩ d_L_law_535 ?_
        refine rp_swap ?_
        refine rp_widen (kc2 := kc + 0) (ks2 := ks + 0) (Nat.le_refl _) (Nat.le_refl _) ?_
        refine rp_lcmp X d_L_law_538 ?_
        refine rp_if_eq (tgt := 681) X d_L_law_539 (by decide) (fun hc196 => ?_) (fun hc196 => ?_)
        · have hf := (if_pos hc196).symm.trans hf
          refine rp_widen (kc2 := kc + 1) (ks2 := ks + 11) (Nat.add_le_add_left (Nat.le_of_ble_eq_true rfl) _) (Nat.add_le_add_left (Nat.le_of_ble_eq_true rfl) _) ?_
          refine rp_sub [0, 1, 2, 3, 4] (lv' := [(0, tR (some b)), (1, tR v1), (2, tR v2), (3, tR v3), (4, tI v4)]) rfl ?_
          exact b_L_law_681 hfl X hX hbl hret hlk hL n kc ks hkc hks (f_L_law_53 n xs L i) hrec v1 v2 v3 v4 ((bmp (hp_N τ194) σ187)) τ194 hf
        · have hf := (if_neg hc196).symm.trans hf
          refine rp_iconst (v := 0) X d_L_law_542 (by decide) ?_
          exact absurd hf (by decide)
      have hf := (if_neg hc181).symm.trans hf
      by_cases hc197 : ((xs x6) &&& 15) = 9
      · have hf := (if_pos hc197).symm.trans hf
        refine rp_tableIn (tgt := 544) (off := 475) X d_L_law_69 (by rw [hc197]; decide) (by rw [hc197]; decide) (by rw [hc197]; decide) (by decide) ?_
        refine rp_aload_n X d_L_law_544 rfl 1 rfl ?_
        obtain ⟨x199, h198, hf⟩ := obind hf
        obtain ⟨x202, σ201, h200, hf⟩ := pbind hf
        refine rp_callV (st := []) X [] (ci := 0) h198 (Nat.le_of_ble_eq_true rfl) q473 q474 q475 (c_W_maintain n v1 h200) q476 q1 y_W_maintain_ok rfl ⟨Nat.le_of_ble_eq_true rfl, Nat.le_of_ble_eq_true rfl⟩ (Nat.le_of_ble_eq_true rfl) ⟨by show kc + 0 + 0 ≤ 601024; omega, by show ks + 0 + 0 ≤ 7293000; omega⟩ d_L_law_545 ?_
        refine rp_widen (kc2 := kc + 0) (ks2 := ks + 0) (Nat.le_refl _) (Nat.le_refl _) ?_
        refine rp_aload_n X d_L_law_548 rfl 2 rfl ?_
        refine rp_swap ?_
        obtain ⟨x204, h203, hf⟩ := obind hf
        obtain ⟨x207, τ206, h205, hf⟩ := pbind hf
        refine rp_callV (st := [tI x202]) X [] (ci := 11) h203 (Nat.le_of_ble_eq_true rfl) q1005 q1006 q1007 (c_M_maintain n v2 h205) q1008 q11 y_M_maintain_ok rfl ⟨Nat.le_of_ble_eq_true rfl, Nat.le_of_ble_eq_true rfl⟩ (Nat.le_of_ble_eq_true rfl) ⟨by show kc + 0 + 0 ≤ 601024; omega, by show ks + 0 + 0 ≤ 7293000; omega⟩ d_L_law_549 ?_
        refine rp_swap ?_
        refine rp_widen (kc2 := kc + 0) (ks2 := ks + 0) (Nat.le_refl _) (Nat.le_refl _) ?_
        refine rp_icmp_eq (tgt := 681) X d_L_law_552 (by decide) (fun hc208 => ?_) (fun hc208 => ?_)
        · have hf := (if_pos hc208).symm.trans hf
          refine rp_widen (kc2 := kc + 1) (ks2 := ks + 11) (Nat.add_le_add_left (Nat.le_of_ble_eq_true rfl) _) (Nat.add_le_add_left (Nat.le_of_ble_eq_true rfl) _) ?_
          refine rp_sub [0, 1, 2, 3, 4] (lv' := [(0, tR (some b)), (1, tR v1), (2, tR v2), (3, tR v3), (4, tI v4)]) rfl ?_
          exact b_L_law_681 hfl X hX hbl hret hlk hL n kc ks hkc hks (f_L_law_53 n xs L i) hrec v1 v2 v3 v4 ((bmp (hp_N τ206) σ201)) τ206 hf
        · have hf := (if_neg hc208).symm.trans hf
          refine rp_iconst (v := 0) X d_L_law_555 (by decide) ?_
          exact absurd hf (by decide)
      have hf := (if_neg hc197).symm.trans hf
      by_cases hc209 : ((xs x6) &&& 15) = 10
      · have hf := (if_pos hc209).symm.trans hf
        refine rp_tableIn (tgt := 557) (off := 488) X d_L_law_69 (by rw [hc209]; decide) (by rw [hc209]; decide) (by rw [hc209]; decide) (by decide) ?_
        refine rp_aload_n X d_L_law_557 rfl 1 rfl ?_
        refine rp_aload_n X d_L_law_558 rfl 0 rfl ?_
        refine rp_iload X d_L_law_559 4 rfl ?_
        refine rp_iconst (v := 1) X d_L_law_561 (by decide) ?_
        refine rp_iadd X d_L_law_562 ?_
        obtain ⟨x210, h211, hf⟩ := obind hf
        refine rp_sld X hX hbl hbA h211 d_L_law_563 ?_
        obtain ⟨x213, h212, hf⟩ := obind hf
        obtain ⟨x216, σ215, h214, hf⟩ := pbind hf
        refine rp_callV (st := []) X [tI (xs x210)] (ci := 0) h212 (Nat.le_of_ble_eq_true rfl) q477 q478 q479 (c_W_count n v1 (xs x210) h214) q480 q1 y_W_count_ok rfl ⟨Nat.le_of_ble_eq_true rfl, Nat.le_of_ble_eq_true rfl⟩ (Nat.le_of_ble_eq_true rfl) ⟨by show kc + 0 + 0 ≤ 601024; omega, by show ks + 0 + 0 ≤ 7293000; omega⟩ d_L_law_564 ?_
        refine rp_widen (kc2 := kc + 0) (ks2 := ks + 0) (Nat.le_refl _) (Nat.le_refl _) ?_
        refine rp_aload_n X d_L_law_567 rfl 2 rfl ?_
        refine rp_aload_n X d_L_law_568 rfl 0 rfl ?_
        refine rp_iload X d_L_law_569 4 rfl ?_
        refine rp_iconst (v := 1) X d_L_law_571 (by decide) ?_
        refine rp_iadd X d_L_law_572 ?_
        obtain ⟨x217, h218, hf⟩ := obind hf
        refine rp_sld X hX hbl hbA h218 d_L_law_573 ?_
        refine rp_swap ?_
        obtain ⟨x220, h219, hf⟩ := obind hf
        obtain ⟨x223, τ222, h221, hf⟩ := pbind hf
        refine rp_callV (st := [tI x216]) X [tI (xs x217)] (ci := 11) h219 (Nat.le_of_ble_eq_true rfl) q1009 q1010 q1011 (c_M_count n v2 (xs x217) h221) q1012 q11 y_M_count_ok rfl ⟨Nat.le_of_ble_eq_true rfl, Nat.le_of_ble_eq_true rfl⟩ (Nat.le_of_ble_eq_true rfl) ⟨by show kc + 0 + 0 ≤ 601024; omega, by show ks + 0 + 0 ≤ 7293000; omega⟩ d_L_law_574 ?_
        refine rp_swap ?_
        refine rp_widen (kc2 := kc + 0) (ks2 := ks + 0) (Nat.le_refl _) (Nat.le_refl _) ?_
        refine rp_icmp_eq (tgt := 681) X d_L_law_577 (by decide) (fun hc224 => ?_) (fun hc224 => ?_)
        · have hf := (if_pos hc224).symm.trans hf
          refine rp_widen (kc2 := kc + 1) (ks2 := ks + 11) (Nat.add_le_add_left (Nat.le_of_ble_eq_true rfl) _) (Nat.add_le_add_left (Nat.le_of_ble_eq_true rfl) _) ?_
          refine rp_sub [0, 1, 2, 3, 4] (lv' := [(0, tR (some b)), (1, tR v1), (2, tR v2), (3, tR v3), (4, tI v4)]) rfl ?_
          exact b_L_law_681 hfl X hX hbl hret hlk hL n kc ks hkc hks (f_L_law_53 n xs L i) hrec v1 v2 v3 v4 ((bmp (hp_N τ222) σ215)) τ222 hf
        · have hf := (if_neg hc224).symm.trans hf
          refine rp_iconst (v := 0) X d_L_law_580 (by decide) ?_
          exact absurd hf (by decide)
      have hf := (if_neg hc209).symm.trans hf
      by_cases hc225 : ((xs x6) &&& 15) = 11
      · have hf := (if_pos hc225).symm.trans hf
        refine rp_tableIn (tgt := 582) (off := 513) X d_L_law_69 (by rw [hc225]; decide) (by rw [hc225]; decide) (by rw [hc225]; decide) (by decide) ?_
        refine rp_aload_n X d_L_law_582 rfl 1 rfl ?_
        refine rp_aload_n X d_L_law_583 rfl 0 rfl ?_
        refine rp_iload X d_L_law_584 4 rfl ?_
        refine rp_iconst (v := 1) X d_L_law_586 (by decide) ?_
        refine rp_iadd X d_L_law_587 ?_
        obtain ⟨x226, h227, hf⟩ := obind hf
        refine rp_sld X hX hbl hbA h227 d_L_law_588 ?_
        obtain ⟨x229, h228, hf⟩ := obind hf
        obtain ⟨x232, σ231, h230, hf⟩ := pbind hf
        refine rp_callV (st := []) X [tI (xs x226)] (ci := 0) h228 (Nat.le_of_ble_eq_true rfl) q489 q490 q491 (c_W_often n v1 (xs x226) h230) q492 q1 y_W_often_ok rfl ⟨Nat.le_of_ble_eq_true rfl, Nat.le_of_ble_eq_true rfl⟩ (Nat.le_of_ble_eq_true rfl) ⟨by show kc + 0 + 0 ≤ 601024; omega, by show ks + 0 + 0 ≤ 7293000; omega⟩ d_L_law_589 ?_
        refine rp_widen (kc2 := kc + 0) (ks2 := ks + 0) (Nat.le_refl _) (Nat.le_refl _) ?_
        refine rp_aload_n X d_L_law_592 rfl 2 rfl ?_
        refine rp_aload_n X d_L_law_593 rfl 0 rfl ?_
        refine rp_iload X d_L_law_594 4 rfl ?_
        refine rp_iconst (v := 1) X d_L_law_596 (by decide) ?_
        refine rp_iadd X d_L_law_597 ?_
        obtain ⟨x233, h234, hf⟩ := obind hf
        refine rp_sld X hX hbl hbA h234 d_L_law_598 ?_
        refine rp_swap ?_
        obtain ⟨x236, h235, hf⟩ := obind hf
        obtain ⟨x239, τ238, h237, hf⟩ := pbind hf
        refine rp_callV (st := [tI x232]) X [tI (xs x233)] (ci := 11) h235 (Nat.le_of_ble_eq_true rfl) q1021 q1022 q1023 (c_M_often n v2 (xs x233) h237) q1024 q11 y_M_often_ok rfl ⟨Nat.le_of_ble_eq_true rfl, Nat.le_of_ble_eq_true rfl⟩ (Nat.le_of_ble_eq_true rfl) ⟨by show kc + 0 + 0 ≤ 601024; omega, by show ks + 0 + 0 ≤ 7293000; omega⟩ d_L_law_599 ?_
        refine rp_swap ?_
        refine rp_widen (kc2 := kc + 0) (ks2 := ks + 0) (Nat.le_refl _) (Nat.le_refl _) ?_
        refine rp_icmp_eq (tgt := 681) X d_L_law_602 (by decide) (fun hc240 => ?_) (fun hc240 => ?_)
        · have hf := (if_pos hc240).symm.trans hf
          refine rp_widen (kc2 := kc + 1) (ks2 := ks + 11) (Nat.add_le_add_left (Nat.le_of_ble_eq_true rfl) _) (Nat.add_le_add_left (Nat.le_of_ble_eq_true rfl) _) ?_
          refine rp_sub [0, 1, 2, 3, 4] (lv' := [(0, tR (some b)), (1, tR v1), (2, tR v2), (3, tR v3), (4, tI v4)]) rfl ?_
          exact b_L_law_681 hfl X hX hbl hret hlk hL n kc ks hkc hks (f_L_law_53 n xs L i) hrec v1 v2 v3 v4 ((bmp (hp_N τ238) σ231)) τ238 hf
        · have hf := (if_neg hc240).symm.trans hf
          refine rp_iconst (v := 0) X d_L_law_605 (by decide) ?_
          exact absurd hf (by decide)
      have hf := (if_neg hc225).symm.trans hf
      by_cases hc241 : ((xs x6) &&& 15) = 12
      · have hf := (if_pos hc241).symm.trans hf
        refine rp_tableIn (tgt := 607) (off := 538) X d_L_law_69 (by rw [hc241]; decide) (by rw [hc241]; decide) (by rw [hc241]; decide) (by decide) ?_
        refine rp_aload_n X d_L_law_607 rfl 1 rfl ?_
        refine rp_aload_n X d_L_law_608 rfl 0 rfl ?_
        refine rp_iload X d_L_law_609 4 rfl ?_
        refine rp_iconst (v := 1) X d_L_law_611 (by decide) ?_
        refine rp_iadd X d_L_law_612 ?_
        obtain ⟨x242, h243, hf⟩ := obind hf
        refine rp_sld X hX hbl hbA h243 d_L_law_613 ?_
        refine rp_aload_n X d_L_law_614 rfl 0 rfl ?_
        refine rp_iload X d_L_law_615 4 rfl ?_
        refine rp_iconst (v := 2) X d_L_law_617 (by decide) ?_
        refine rp_iadd X d_L_law_618 ?_
        obtain ⟨x244, h245, hf⟩ := obind hf
        refine rp_sld X hX hbl hbA h245 d_L_law_619 ?_
        obtain ⟨x247, h246, hf⟩ := obind hf
        obtain ⟨x250, σ249, h248, hf⟩ := pbind hf
        refine rp_callV (st := []) X [tI (xs x242), tI (xs x244)] (ci := 0) h246 (Nat.le_of_ble_eq_true rfl) q493 q494 q495 (c_W_at n v1 (xs x242) (xs x244) h248) q496 q1 y_W_at_ok rfl ⟨Nat.le_of_ble_eq_true rfl, Nat.le_of_ble_eq_true rfl⟩ (Nat.le_of_ble_eq_true rfl) ⟨by show kc + 0 + 0 ≤ 601024; omega, by show ks + 0 + 0 ≤ 7293000; omega⟩ d_L_law_620 ?_
        refine rp_widen (kc2 := kc + 0) (ks2 := ks + 0) (Nat.le_refl _) (Nat.le_refl _) ?_
        refine rp_aload_n X d_L_law_623 rfl 2 rfl ?_
        refine rp_aload_n X d_L_law_624 rfl 0 rfl ?_
        refine rp_iload X d_L_law_625 4 rfl ?_
        refine rp_iconst (v := 1) X d_L_law_627 (by decide) ?_
        refine rp_iadd X d_L_law_628 ?_
        obtain ⟨x251, h252, hf⟩ := obind hf
        refine rp_sld X hX hbl hbA h252 d_L_law_629 ?_
        refine rp_aload_n X d_L_law_630 rfl 0 rfl ?_
        refine rp_iload X d_L_law_631 4 rfl ?_
        refine rp_iconst (v := 2) X d_L_law_633 (by decide) ?_
        refine rp_iadd X d_L_law_634 ?_
        obtain ⟨x253, h254, hf⟩ := obind hf
        refine rp_sld X hX hbl hbA h254 d_L_law_635 ?_
        refine rp_swap ?_
        obtain ⟨x256, h255, hf⟩ := obind hf
        obtain ⟨x259, τ258, h257, hf⟩ := pbind hf
        refine rp_callV (st := [tI x250]) X [tI (xs x251), tI (xs x253)] (ci := 11) h255 (Nat.le_of_ble_eq_true rfl) q1025 q1026 q1027 (c_M_at n v2 (xs x251) (xs x253) h257) q1028 q11 y_M_at_ok rfl ⟨Nat.le_of_ble_eq_true rfl, Nat.le_of_ble_eq_true rfl⟩ (Nat.le_of_ble_eq_true rfl) ⟨by show kc + 0 + 0 ≤ 601024; omega, by show ks + 0 + 0 ≤ 7293000; omega⟩ d_L_law_636 ?_
        refine rp_swap ?_
        refine rp_widen (kc2 := kc + 0) (ks2 := ks + 0) (Nat.le_refl _) (Nat.le_refl _) ?_
        refine rp_icmp_eq (tgt := 681) X d_L_law_639 (by decide) (fun hc260 => ?_) (fun hc260 => ?_)
        · have hf := (if_pos hc260).symm.trans hf
          refine rp_widen (kc2 := kc + 1) (ks2 := ks + 11) (Nat.add_le_add_left (Nat.le_of_ble_eq_true rfl) _) (Nat.add_le_add_left (Nat.le_of_ble_eq_true rfl) _) ?_
          refine rp_sub [0, 1, 2, 3, 4] (lv' := [(0, tR (some b)), (1, tR v1), (2, tR v2), (3, tR v3), (4, tI v4)]) rfl ?_
          exact b_L_law_681 hfl X hX hbl hret hlk hL n kc ks hkc hks (f_L_law_53 n xs L i) hrec v1 v2 v3 v4 ((bmp (hp_N τ258) σ249)) τ258 hf
        · have hf := (if_neg hc260).symm.trans hf
          refine rp_iconst (v := 0) X d_L_law_642 (by decide) ?_
          exact absurd hf (by decide)
      have hf := (if_neg hc241).symm.trans hf
      by_cases hc261 : ((xs x6) &&& 15) = 13
      · have hf := (if_pos hc261).symm.trans hf
        refine rp_tableIn (tgt := 644) (off := 575) X d_L_law_69 (by rw [hc261]; decide) (by rw [hc261]; decide) (by rw [hc261]; decide) (by decide) ?_
        refine rp_aload_n X d_L_law_644 rfl 1 rfl ?_
        refine rp_aload_n X d_L_law_645 rfl 0 rfl ?_
        refine rp_iload X d_L_law_646 4 rfl ?_
        refine rp_iconst (v := 1) X d_L_law_648 (by decide) ?_
        refine rp_iadd X d_L_law_649 ?_
        obtain ⟨x262, h263, hf⟩ := obind hf
        refine rp_sld X hX hbl hbA h263 d_L_law_650 ?_
        refine rp_aload_n X d_L_law_651 rfl 0 rfl ?_
        refine rp_iload X d_L_law_652 4 rfl ?_
        refine rp_iconst (v := 2) X d_L_law_654 (by decide) ?_
        refine rp_iadd X d_L_law_655 ?_
        obtain ⟨x264, h265, hf⟩ := obind hf
        refine rp_sld X hX hbl hbA h265 d_L_law_656 ?_
        obtain ⟨x267, h266, hf⟩ := obind hf
        obtain ⟨x270, σ269, h268, hf⟩ := pbind hf
        refine rp_callV (st := []) X [tI (xs x262), tI (xs x264)] (ci := 0) h266 (Nat.le_of_ble_eq_true rfl) q501 q502 q503 (c_W_listened v1 (xs x262) (xs x264) h268) q504 q1 y_W_listened_ok rfl ⟨Nat.le_of_ble_eq_true rfl, Nat.le_of_ble_eq_true rfl⟩ (Nat.le_of_ble_eq_true rfl) ⟨by show kc + 0 + 0 ≤ 601024; omega, by show ks + 0 + 0 ≤ 7293000; omega⟩ d_L_law_657 ?_
        refine rp_widen (kc2 := kc + 0) (ks2 := ks + 0) (Nat.le_refl _) (Nat.le_refl _) ?_
        refine rp_aload_n X d_L_law_660 rfl 2 rfl ?_
        refine rp_aload_n X d_L_law_661 rfl 0 rfl ?_
        refine rp_iload X d_L_law_662 4 rfl ?_
        refine rp_iconst (v := 1) X d_L_law_664 (by decide) ?_
        refine rp_iadd X d_L_law_665 ?_
        obtain ⟨x271, h272, hf⟩ := obind hf
        refine rp_sld X hX hbl hbA h272 d_L_law_666 ?_
        refine rp_aload_n X d_L_law_667 rfl 0 rfl ?_
        refine rp_iload X d_L_law_668 4 rfl ?_
        refine rp_iconst (v := 2) X d_L_law_670 (by decide) ?_
        refine rp_iadd X d_L_law_671 ?_
        obtain ⟨x273, h274, hf⟩ := obind hf
        refine rp_sld X hX hbl hbA h274 d_L_law_672 ?_
        refine rp_swap ?_
        obtain ⟨x276, h275, hf⟩ := obind hf
        obtain ⟨x279, τ278, h277, hf⟩ := pbind hf
        refine rp_callV (st := [tI x270]) X [tI (xs x271), tI (xs x273)] (ci := 11) h275 (Nat.le_of_ble_eq_true rfl) q1029 q1030 q1031 (c_M_listened v2 (xs x271) (xs x273) h277) q1032 q11 y_M_listened_ok rfl ⟨Nat.le_of_ble_eq_true rfl, Nat.le_of_ble_eq_true rfl⟩ (Nat.le_of_ble_eq_true rfl) ⟨by show kc + 0 + 0 ≤ 601024; omega, by show ks + 0 + 0 ≤ 7293000; omega⟩ d_L_law_673 ?_
        refine rp_swap ?_
        refine rp_widen (kc2 := kc + 0) (ks2 := ks + 0) (Nat.le_refl _) (Nat.le_refl _) ?_
        refine rp_icmp_eq (tgt := 681) X d_L_law_676 (by decide) (fun hc280 => ?_) (fun hc280 => ?_)
        · have hf := (if_pos hc280).symm.trans hf
          refine rp_widen (kc2 := kc + 1) (ks2 := ks + 11) (Nat.add_le_add_left (Nat.le_of_ble_eq_true rfl) _) (Nat.add_le_add_left (Nat.le_of_ble_eq_true rfl) _) ?_
          refine rp_sub [0, 1, 2, 3, 4] (lv' := [(0, tR (some b)), (1, tR v1), (2, tR v2), (3, tR v3), (4, tI v4)]) rfl ?_
          exact b_L_law_681 hfl X hX hbl hret hlk hL n kc ks hkc hks (f_L_law_53 n xs L i) hrec v1 v2 v3 v4 ((bmp (hp_N τ278) σ269)) τ278 hf
        · have hf := (if_neg hc280).symm.trans hf
          refine rp_iconst (v := 0) X d_L_law_679 (by decide) ?_
          exact absurd hf (by decide)
      have hf := (if_neg hc261).symm.trans hf
      refine rp_tableOut (tgt := 681) X d_L_law_69 (sw_out 13 [0, 1, 2, 3, 4, 5, 6, 7, 8, 9, 10, 11, 12, 13] rfl (List.forall_mem_cons.mpr ⟨hc8, List.forall_mem_cons.mpr ⟨hc24, List.forall_mem_cons.mpr ⟨hc40, List.forall_mem_cons.mpr ⟨hc76, List.forall_mem_cons.mpr ⟨hc92, List.forall_mem_cons.mpr ⟨hc115, List.forall_mem_cons.mpr ⟨hc131, List.forall_mem_cons.mpr ⟨hc163, List.forall_mem_cons.mpr ⟨hc181, List.forall_mem_cons.mpr ⟨hc197, List.forall_mem_cons.mpr ⟨hc209, List.forall_mem_cons.mpr ⟨hc225, List.forall_mem_cons.mpr ⟨hc241, List.forall_mem_cons.mpr ⟨hc261, fun _ h => absurd h List.not_mem_nil⟩⟩⟩⟩⟩⟩⟩⟩⟩⟩⟩⟩⟩⟩)) (by decide) ?_
      refine rp_widen (kc2 := kc + 1) (ks2 := ks + 11) (Nat.add_le_add_left (Nat.le_of_ble_eq_true rfl) _) (Nat.add_le_add_left (Nat.le_of_ble_eq_true rfl) _) ?_
      refine rp_sub [0, 1, 2, 3, 4] (lv' := [(0, tR (some b)), (1, tR v1), (2, tR v2), (3, tR v3), (4, tI v4)]) rfl ?_
      exact b_L_law_681 hfl X hX hbl hret hlk hL n kc ks hkc hks (f_L_law_53 n xs L i) hrec v1 v2 v3 v4 σ τ hf

def f_L_law (n N : Nat) (xs : Nat → Int32) (L : Nat) (σ τ : Hp) : Option Int32 :=
  Option.bind (f_W_init n (some (hp_N σ)) (cellv xs L 0) (cellv xs L 1) (cellv xs L 2) ((nw_O σ 0))) fun σ2 =>
  Option.bind (f_M_init n (some (hp_N ((bmp (hp_N σ2) ((bmp (hp_N σ + 1) τ)))))) (cellv xs L 0) (cellv xs L 1) (cellv xs L 2) ((nw_O ((bmp (hp_N σ2) ((bmp (hp_N σ + 1) τ)))) 11))) fun τ4 =>
  f_L_law_53 n xs L N (some (hp_N σ)) (some (hp_N ((bmp (hp_N σ2) ((bmp (hp_N σ + 1) τ)))))) (some (hp_N ((bmp (hp_N τ4) ((bmp (hp_N ((bmp (hp_N σ2) ((bmp (hp_N σ + 1) τ)))) + 1) σ2)))))) 3 ((nw_A ((bmp (hp_N τ4) ((bmp (hp_N ((bmp (hp_N σ2) ((bmp (hp_N σ + 1) τ)))) + 1) σ2)))) (1, (1 : Int32).toNatClampNeg, .inr (.inl (fun _ => 0))))) ((bmp (hp_N ((bmp (hp_N τ4) ((bmp (hp_N ((bmp (hp_N σ2) ((bmp (hp_N σ + 1) τ)))) + 1) σ2)))) + 1) τ4))
set_option maxRecDepth 100000 in
set_option maxHeartbeats 1000000 in
theorem b_L_law {p : Program} {l : Launch} {e : Env} {s : State} {m : MethodId} {below : List Frame} {meth : Method} {c : Code} {DD : DT} {b L : Nat} {xs : Nat → Int32} (hfl : l.flags = flags0) (X : CX p s m #[Value.ref b] c code 7 (fun q => s.heap.size ≤ q) DD "WindowCacheLaw") (hX : va_X b L xs s s.heap) (hbl : b < s.heap.size) (hret : meth.sig.returnType = ret) (hlk : meth.locks = false) (hL : L ≤ 2563) (n N : Nat) (hN : N ≤ 600) (σ τ : Hp) (hf : f_L_law n N xs L σ τ = some 1) : GP p l e room_1 s m #[Value.ref b] below meth c 7 (fun q => s.heap.size ≤ q) (W2 (fun q => s.heap.size ≤ q) DD σ τ) (lw_Z below #[Value.ref b] s) (0) (0) 0 [(0, tR (some b))] [] := by
  have hbA : ¬ (fun q => s.heap.size ≤ q) b := Nat.not_le.mpr hbl
  unfold f_L_law at hf
  refine rp_new (ci := 0) X (Nat.le_of_ble_eq_true rfl) q20 q21 q1 (Nat.le_of_ble_eq_true rfl) (Nat.le_of_ble_eq_true rfl) d_L_law_0 ?_
  refine rp_dup X d_L_law_3 rfl ?_
  refine rp_aload_n X d_L_law_4 rfl 0 rfl ?_
  refine rp_iconst (v := 0) X d_L_law_5 (by decide) ?_
  refine rp_cell (st := [tR (some (hp_N σ)), tR (some (hp_N σ))]) X hX hbl hL (by decide) q509 q510 q511 q0 d_L_law_6 (Nat.le_of_ble_eq_true rfl) ⟨Nat.le_of_ble_eq_true rfl, Nat.le_of_ble_eq_true rfl⟩ ?_
  refine rp_aload_n X d_L_law_9 rfl 0 rfl ?_
  refine rp_iconst (v := 1) X d_L_law_10 (by decide) ?_
  refine rp_cell (st := [tI (cellv xs L 0), tR (some (hp_N σ)), tR (some (hp_N σ))]) X hX hbl hL (by decide) q509 q510 q511 q0 d_L_law_11 (Nat.le_of_ble_eq_true rfl) ⟨Nat.le_of_ble_eq_true rfl, Nat.le_of_ble_eq_true rfl⟩ ?_
  refine rp_aload_n X d_L_law_14 rfl 0 rfl ?_
  refine rp_iconst (v := 2) X d_L_law_15 (by decide) ?_
  refine rp_cell (st := [tI (cellv xs L 1), tI (cellv xs L 0), tR (some (hp_N σ)), tR (some (hp_N σ))]) X hX hbl hL (by decide) q509 q510 q511 q0 d_L_law_16 (Nat.le_of_ble_eq_true rfl) ⟨Nat.le_of_ble_eq_true rfl, Nat.le_of_ble_eq_true rfl⟩ ?_
  obtain ⟨σ2, h1, hf⟩ := obind hf
  refine rp_callI (ret := none) (st := [tR (some (hp_N σ))]) X [tI (cellv xs L 0), tI (cellv xs L 1), tI (cellv xs L 2)] rfl q22 q23 rfl (c_W_init n (some (hp_N σ)) (cellv xs L 0) (cellv xs L 1) (cellv xs L 2) h1) q24 q1 y_W_init_ok rfl ⟨Nat.le_of_ble_eq_true rfl, Nat.le_of_ble_eq_true rfl⟩ (Nat.le_of_ble_eq_true rfl) ⟨Nat.le_of_ble_eq_true rfl, Nat.le_of_ble_eq_true rfl⟩ d_L_law_19 ?_
  refine rp_astore_n (lv' := [(0, tR (some b)), (1, tR (some (hp_N σ)))]) X [1, 0] d_L_law_22 rfl (Nat.le_of_ble_eq_true rfl) rfl ?_
  refine rp_swap ?_
  refine rp_new (ci := 11) X (Nat.le_of_ble_eq_true rfl) q689 q690 q11 (Nat.le_of_ble_eq_true rfl) (Nat.le_of_ble_eq_true rfl) d_L_law_23 ?_
  refine rp_swap ?_
  refine rp_dup X d_L_law_26 rfl ?_
  refine rp_aload_n X d_L_law_27 rfl 0 rfl ?_
  refine rp_iconst (v := 0) X d_L_law_28 (by decide) ?_
  refine rp_cell (st := [tR (some (hp_N ((bmp (hp_N σ2) ((bmp (hp_N σ + 1) τ)))))), tR (some (hp_N ((bmp (hp_N σ2) ((bmp (hp_N σ + 1) τ))))))]) X hX hbl hL (by decide) q509 q510 q511 q0 d_L_law_29 (Nat.le_of_ble_eq_true rfl) ⟨Nat.le_of_ble_eq_true rfl, Nat.le_of_ble_eq_true rfl⟩ ?_
  refine rp_aload_n X d_L_law_32 rfl 0 rfl ?_
  refine rp_iconst (v := 1) X d_L_law_33 (by decide) ?_
  refine rp_cell (st := [tI (cellv xs L 0), tR (some (hp_N ((bmp (hp_N σ2) ((bmp (hp_N σ + 1) τ)))))), tR (some (hp_N ((bmp (hp_N σ2) ((bmp (hp_N σ + 1) τ))))))]) X hX hbl hL (by decide) q509 q510 q511 q0 d_L_law_34 (Nat.le_of_ble_eq_true rfl) ⟨Nat.le_of_ble_eq_true rfl, Nat.le_of_ble_eq_true rfl⟩ ?_
  refine rp_aload_n X d_L_law_37 rfl 0 rfl ?_
  refine rp_iconst (v := 2) X d_L_law_38 (by decide) ?_
  refine rp_cell (st := [tI (cellv xs L 1), tI (cellv xs L 0), tR (some (hp_N ((bmp (hp_N σ2) ((bmp (hp_N σ + 1) τ)))))), tR (some (hp_N ((bmp (hp_N σ2) ((bmp (hp_N σ + 1) τ))))))]) X hX hbl hL (by decide) q509 q510 q511 q0 d_L_law_39 (Nat.le_of_ble_eq_true rfl) ⟨Nat.le_of_ble_eq_true rfl, Nat.le_of_ble_eq_true rfl⟩ ?_
  refine rp_swap ?_
  obtain ⟨τ4, h3, hf⟩ := obind hf
  refine rp_callI (ret := none) (st := [tR (some (hp_N ((bmp (hp_N σ2) ((bmp (hp_N σ + 1) τ))))))]) X [tI (cellv xs L 0), tI (cellv xs L 1), tI (cellv xs L 2)] rfl q691 q692 rfl (c_M_init n (some (hp_N ((bmp (hp_N σ2) ((bmp (hp_N σ + 1) τ)))))) (cellv xs L 0) (cellv xs L 1) (cellv xs L 2) h3) q693 q11 y_M_init_ok rfl ⟨Nat.le_of_ble_eq_true rfl, Nat.le_of_ble_eq_true rfl⟩ (Nat.le_of_ble_eq_true rfl) ⟨Nat.le_of_ble_eq_true rfl, Nat.le_of_ble_eq_true rfl⟩ d_L_law_42 ?_
  refine rp_swap ?_
  refine rp_astore_n (lv' := [(0, tR (some b)), (1, tR (some (hp_N σ))), (2, tR (some (hp_N ((bmp (hp_N σ2) ((bmp (hp_N σ + 1) τ)))))))]) X [1, 2, 0] d_L_law_45 rfl (Nat.le_of_ble_eq_true rfl) rfl ?_
  refine rp_iconst (v := 1) X d_L_law_46 (by decide) ?_
  refine rp_newa_L X 1 (by decide) (by decide) (Nat.le_of_ble_eq_true rfl) (Nat.le_of_ble_eq_true rfl) d_L_law_47 q852 ?_
  refine rp_astore_n (lv' := [(0, tR (some b)), (1, tR (some (hp_N σ))), (2, tR (some (hp_N ((bmp (hp_N σ2) ((bmp (hp_N σ + 1) τ))))))), (3, tR (some (hp_N ((bmp (hp_N τ4) ((bmp (hp_N ((bmp (hp_N σ2) ((bmp (hp_N σ + 1) τ)))) + 1) σ2)))))))]) X [1, 2, 3, 0] d_L_law_49 rfl (Nat.le_of_ble_eq_true rfl) rfl ?_
  refine rp_iconst (v := 3) X d_L_law_50 (by decide) ?_
  refine rp_istore (lv' := [(0, tR (some b)), (1, tR (some (hp_N σ))), (2, tR (some (hp_N ((bmp (hp_N σ2) ((bmp (hp_N σ + 1) τ))))))), (3, tR (some (hp_N ((bmp (hp_N τ4) ((bmp (hp_N ((bmp (hp_N σ2) ((bmp (hp_N σ + 1) τ)))) + 1) σ2))))))), (4, tI 3)]) X [1, 2, 3, 4, 0] d_L_law_51 (Nat.le_of_ble_eq_true rfl) rfl ?_
  refine rp_widen (kc2 := 48) (ks2 := 58176) (Nat.le_of_ble_eq_true rfl) (Nat.le_of_ble_eq_true rfl) ?_
  refine rp_sub [0, 1, 2, 3, 4] (lv' := [(0, tR (some b)), (1, tR (some (hp_N σ))), (2, tR (some (hp_N ((bmp (hp_N σ2) ((bmp (hp_N σ + 1) τ))))))), (3, tR (some (hp_N ((bmp (hp_N τ4) ((bmp (hp_N ((bmp (hp_N σ2) ((bmp (hp_N σ + 1) τ)))) + 1) σ2))))))), (4, tI 3)]) rfl ?_
  exact b_L_law_53 hfl X hX hbl hret hlk hL n N 48 58176 (by omega) (by omega) (some (hp_N σ)) (some (hp_N ((bmp (hp_N σ2) ((bmp (hp_N σ + 1) τ)))))) (some (hp_N ((bmp (hp_N τ4) ((bmp (hp_N ((bmp (hp_N σ2) ((bmp (hp_N σ + 1) τ)))) + 1) σ2)))))) 3 ((nw_A ((bmp (hp_N τ4) ((bmp (hp_N ((bmp (hp_N σ2) ((bmp (hp_N σ + 1) τ)))) + 1) σ2)))) (1, (1 : Int32).toNatClampNeg, .inr (.inl (fun _ => 0))))) ((bmp (hp_N ((bmp (hp_N τ4) ((bmp (hp_N ((bmp (hp_N σ2) ((bmp (hp_N σ + 1) τ)))) + 1) σ2)))) + 1) τ4)) hf

