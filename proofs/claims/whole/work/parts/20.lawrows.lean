/-! THE LAW's OWN WALK: two worlds side by side, the script, the class's objects and the reference's -/
def GP (p : Program) (l : Launch) (e : Env) (R : Room) (s : State) (m : MethodId) (args : Array Value) (below : List Frame) (meth : Method) (c : Code) (nL : Nat) (A : Nat → Prop) (P : Heap → Prop) (Q : State → Prop) (kc ks : Nat) (pc : Nat) (lv : List (Nat × TV)) (st : List TV) : Prop :=
  ∀ (H : Heap) (locs : List Loc) (ls : Array Slot), P H → va_S A s.heap H locs → lv_has ls nL (lvm lv) → W p l e R s m args below meth c H locs kc ks Q (F0 m pc ls (st.map tv))
def apart (σ τ : Hp) : Prop := ∀ q, (hp_C σ q ≠ none ∨ hp_A σ q ≠ none) → hp_C τ q = none ∧ hp_A τ q = none
def W2 (A : Nat → Prop) (DD : DT) (σ τ : Hp) (H : Heap) : Prop := wld A DD σ H ∧ wld A DD τ H ∧ apart σ τ
def bmp (n : Nat) (σ : Hp) : Hp := ((n, σ.1.2), σ.2)
theorem apart.swap {σ τ : Hp} (h : apart σ τ) : apart τ σ := by
  intro q hq
  by_cases h1 : hp_C σ q ≠ none ∨ hp_A σ q ≠ none
  · obtain ⟨h2, h3⟩ := h q h1
    rcases hq with hq | hq
    · exact absurd h2 hq
    · exact absurd h3 hq
  · exact ⟨Classical.byContradiction fun z => h1 (Or.inl z), Classical.byContradiction fun z => h1 (Or.inr z)⟩
theorem W2.swap {A : Nat → Prop} {DD : DT} {σ τ : Hp} {H : Heap} (h : W2 A DD σ τ H) : W2 A DD τ σ H := ⟨h.2.1, h.1, h.2.2.swap⟩
/-- the other world is as it was, where one has been moved within its own cells -/
theorem wld.other {A B : Nat → Prop} {DD : DT} {σ σ' τ : Hp} {H H1 : Heap} (h : wld B DD τ H) (hap : apart σ τ) (h' : wld A DD σ' H1) (hN : H.size = hp_N σ) (hq : ∀ q : Nat, q < H.size → ¬ dm σ q → H1[q]? = H[q]?) : wld B DD (bmp (hp_N σ') τ) H1 := by
  refine ⟨h'.1, fun b cb hb => ?_, fun b t x hb => ?_⟩
  · obtain ⟨g1, g2, g3, g4⟩ := h.2.1 b cb hb
    have hlt := h.ltC hb
    have hout : ¬ dm σ b := by
      rintro (z | z)
      · have := (hap b z).1
        have hb' : hp_C τ b = some cb := hb
        rw [this] at hb'; cases hb'
      · omega
    exact ⟨g1, g2, g3, g4.kept (hq b hlt hout)⟩
  · obtain ⟨g1, q, g2, g3⟩ := h.2.2 b t x hb
    have hlt := h.ltA (x := (t, x)) hb
    have hout : ¬ dm σ b := by
      rintro (z | z)
      · have := (hap b z).2
        have hb' : hp_A τ b = some (t, x) := hb
        rw [this] at hb'; cases hb'
      · omega
    exact ⟨g1, q, g2, by rw [hq b hlt hout]; exact g3⟩
theorem apart.moved {DD : DT} {σ σ' τ : Hp} {B : Nat → Prop} {H H1 : Heap} (hap : apart σ τ) (hτ : wld B DD τ H) (hN : H.size = hp_N σ) (h' : wld (dm σ) DD σ' H1) (n : Nat) : apart σ' (bmp n τ) := by
  intro q hq
  have hd : dm σ q := by
    rcases hq with hq | hq
    · cases hc : hp_C σ' q with
      | none => exact absurd hc hq
      | some ci => exact (h'.2.1 q ci hc).2.1
    · cases hc : hp_A σ' q with
      | none => exact absurd hc hq
      | some x => exact (h'.2.2 q x.1 x.2 hc).1
  rcases hd with z | z
  · exact hap q z
  · constructor
    · cases hc : hp_C τ q with
      | none => exact hc
      | some ci => have := hτ.ltC hc; omega
    · cases hc : hp_A τ q with
      | none => exact hc
      | some x => have := hτ.ltA hc; omega
section RP
variable {p : Program} {l : Launch} {e : Env} {R : Room} {s : State} {m : MethodId} {args : Array Value} {below : List Frame} {meth : Method} {c : Code} {cc : ByteArray} {nL : Nat} {A : Nat → Prop} {DD : DT} {own : String} {P : Heap → Prop} {Q : State → Prop} {kc ks pc : Nat} {σ τ : Hp} {lv : List (Nat × TV)} {st : List TV}

theorem rp_iadd (X : CX p s m args c cc nL A DD own) {x y : Int32} (hd : decode cc pc = .ok (.iadd, 1))  (k : GP p l e R s m args below meth c nL A P Q kc ks (pc + 1) (lv) (tI (x + y) :: st)) : GP p l e R s m args below meth c nL A P Q kc ks (pc) (lv) (tI y :: tI x :: st) := fun H locs ls h1 h2 h3 => lv_iadd X.1 X.2.1 hd  (k H locs ls h1 h2 h3)
theorem rp_isub (X : CX p s m args c cc nL A DD own) {x y : Int32} (hd : decode cc pc = .ok (.isub, 1))  (k : GP p l e R s m args below meth c nL A P Q kc ks (pc + 1) (lv) (tI (x - y) :: st)) : GP p l e R s m args below meth c nL A P Q kc ks (pc) (lv) (tI y :: tI x :: st) := fun H locs ls h1 h2 h3 => lv_isub X.1 X.2.1 hd  (k H locs ls h1 h2 h3)
theorem rp_imul (X : CX p s m args c cc nL A DD own) {x y : Int32} (hd : decode cc pc = .ok (.imul, 1))  (k : GP p l e R s m args below meth c nL A P Q kc ks (pc + 1) (lv) (tI (x * y) :: st)) : GP p l e R s m args below meth c nL A P Q kc ks (pc) (lv) (tI y :: tI x :: st) := fun H locs ls h1 h2 h3 => lv_imul X.1 X.2.1 hd  (k H locs ls h1 h2 h3)
theorem rp_iand (X : CX p s m args c cc nL A DD own) {x y : Int32} (hd : decode cc pc = .ok (.iand, 1))  (k : GP p l e R s m args below meth c nL A P Q kc ks (pc + 1) (lv) (tI (x &&& y) :: st)) : GP p l e R s m args below meth c nL A P Q kc ks (pc) (lv) (tI y :: tI x :: st) := fun H locs ls h1 h2 h3 => lv_iand X.1 X.2.1 hd  (k H locs ls h1 h2 h3)
theorem rp_ixor (X : CX p s m args c cc nL A DD own) {x y : Int32} (hd : decode cc pc = .ok (.ixor, 1))  (k : GP p l e R s m args below meth c nL A P Q kc ks (pc + 1) (lv) (tI (x ^^^ y) :: st)) : GP p l e R s m args below meth c nL A P Q kc ks (pc) (lv) (tI y :: tI x :: st) := fun H locs ls h1 h2 h3 => lv_ixor X.1 X.2.1 hd  (k H locs ls h1 h2 h3)
theorem rp_ishl (X : CX p s m args c cc nL A DD own) {x y : Int32} (hd : decode cc pc = .ok (.ishl, 1))  (k : GP p l e R s m args below meth c nL A P Q kc ks (pc + 1) (lv) (tI (x <<< (y &&& 31)) :: st)) : GP p l e R s m args below meth c nL A P Q kc ks (pc) (lv) (tI y :: tI x :: st) := fun H locs ls h1 h2 h3 => lv_ishl X.1 X.2.1 hd  (k H locs ls h1 h2 h3)
theorem rp_idiv (X : CX p s m args c cc nL A DD own) {x y : Int32} (hd : decode cc pc = .ok (.idiv, 1)) (hne : ¬ y = 0) (k : GP p l e R s m args below meth c nL A P Q kc ks (pc + 1) (lv) (tI (x / y) :: st)) : GP p l e R s m args below meth c nL A P Q kc ks (pc) (lv) (tI y :: tI x :: st) := fun H locs ls h1 h2 h3 => lv_idiv X.1 X.2.1 hd hne (k H locs ls h1 h2 h3)
theorem rp_irem (X : CX p s m args c cc nL A DD own) {x y : Int32} (hd : decode cc pc = .ok (.irem, 1)) (hne : ¬ y = 0) (k : GP p l e R s m args below meth c nL A P Q kc ks (pc + 1) (lv) (tI (x - x / y * y) :: st)) : GP p l e R s m args below meth c nL A P Q kc ks (pc) (lv) (tI y :: tI x :: st) := fun H locs ls h1 h2 h3 => lv_irem X.1 X.2.1 hd hne (k H locs ls h1 h2 h3)
theorem rp_iushr (X : CX p s m args c cc nL A DD own) {x y : Int32} (hd : decode cc pc = .ok (.iushr, 1))  (k : GP p l e R s m args below meth c nL A P Q kc ks (pc + 1) (lv) (tI (iushr_ x y) :: st)) : GP p l e R s m args below meth c nL A P Q kc ks (pc) (lv) (tI y :: tI x :: st) := fun H locs ls h1 h2 h3 => lv_iushr X.1 X.2.1 hd rfl (k H locs ls h1 h2 h3)
theorem rp_ineg (X : CX p s m args c cc nL A DD own) {x : Int32} (hd : decode cc pc = .ok (.ineg, 1))  (k : GP p l e R s m args below meth c nL A P Q kc ks (pc + 1) (lv) (tI (-x) :: st)) : GP p l e R s m args below meth c nL A P Q kc ks (pc) (lv) (tI x :: st) := fun H locs ls h1 h2 h3 => lv_ineg X.1 X.2.1 hd  (k H locs ls h1 h2 h3)
theorem rp_ladd (X : CX p s m args c cc nL A DD own) {x y : Int64} (hd : decode cc pc = .ok (.ladd, 1))  (k : GP p l e R s m args below meth c nL A P Q kc ks (pc + 1) (lv) (tL (x + y) :: st)) : GP p l e R s m args below meth c nL A P Q kc ks (pc) (lv) (tL y :: tL x :: st) := fun H locs ls h1 h2 h3 => lv_ladd X.1 X.2.1 hd  (k H locs ls h1 h2 h3)
theorem rp_lmul (X : CX p s m args c cc nL A DD own) {x y : Int64} (hd : decode cc pc = .ok (.lmul, 1))  (k : GP p l e R s m args below meth c nL A P Q kc ks (pc + 1) (lv) (tL (x * y) :: st)) : GP p l e R s m args below meth c nL A P Q kc ks (pc) (lv) (tL y :: tL x :: st) := fun H locs ls h1 h2 h3 => lv_lmul X.1 X.2.1 hd  (k H locs ls h1 h2 h3)
theorem rp_ldiv (X : CX p s m args c cc nL A DD own) {x y : Int64} (hd : decode cc pc = .ok (.ldiv, 1)) (hne : ¬ y = 0) (k : GP p l e R s m args below meth c nL A P Q kc ks (pc + 1) (lv) (tL (x / y) :: st)) : GP p l e R s m args below meth c nL A P Q kc ks (pc) (lv) (tL y :: tL x :: st) := fun H locs ls h1 h2 h3 => lv_ldiv X.1 X.2.1 hd hne (k H locs ls h1 h2 h3)
theorem rp_i2l (X : CX p s m args c cc nL A DD own) {x : Int32} (hd : decode cc pc = .ok (.i2l, 1))  (k : GP p l e R s m args below meth c nL A P Q kc ks (pc + 1) (lv) (tL x.toInt64 :: st)) : GP p l e R s m args below meth c nL A P Q kc ks (pc) (lv) (tI x :: st) := fun H locs ls h1 h2 h3 => lv_i2l X.1 X.2.1 hd rfl (k H locs ls h1 h2 h3)
theorem rp_l2i (X : CX p s m args c cc nL A DD own) {x : Int64} (hd : decode cc pc = .ok (.l2i, 1))  (k : GP p l e R s m args below meth c nL A P Q kc ks (pc + 1) (lv) (tI x.toInt32 :: st)) : GP p l e R s m args below meth c nL A P Q kc ks (pc) (lv) (tL x :: st) := fun H locs ls h1 h2 h3 => lv_l2i X.1 X.2.1 hd rfl (k H locs ls h1 h2 h3)
theorem rp_lcmp (X : CX p s m args c cc nL A DD own) {x y : Int64} (hd : decode cc pc = .ok (.lcmp, 1))  (k : GP p l e R s m args below meth c nL A P Q kc ks (pc + 1) (lv) (tI (lg_cmp x y) :: st)) : GP p l e R s m args below meth c nL A P Q kc ks (pc) (lv) (tL y :: tL x :: st) := fun H locs ls h1 h2 h3 => W.lcmp X.1 X.2.1 hd  (k H locs ls h1 h2 h3)
theorem rp_iconst (X : CX p s m args c cc nL A DD own) {n : Int} {v : Int32} (hd : decode cc pc = .ok (.iconst n, 1)) (hv : Int32.ofInt n = v) (k : GP p l e R s m args below meth c nL A P Q kc ks (pc + 1) (lv) (tI v :: st)) : GP p l e R s m args below meth c nL A P Q kc ks (pc) (lv) (st) := fun H locs ls h1 h2 h3 => lv_iconst X.1 X.2.1 hd hv (k H locs ls h1 h2 h3)
theorem rp_bipush (X : CX p s m args c cc nL A DD own) {n : Int} {v : Int32} (hd : decode cc pc = .ok (.bipush n, 2)) (hv : (Int8.ofInt n).toInt32 = v) (k : GP p l e R s m args below meth c nL A P Q kc ks (pc + 2) (lv) (tI v :: st)) : GP p l e R s m args below meth c nL A P Q kc ks (pc) (lv) (st) := fun H locs ls h1 h2 h3 => lv_bipush X.1 X.2.1 hd hv (k H locs ls h1 h2 h3)
theorem rp_sipush (X : CX p s m args c cc nL A DD own) {n : Int} {v : Int32} (hd : decode cc pc = .ok (.sipush n, 3)) (hv : (Int16.ofInt n).toInt32 = v) (k : GP p l e R s m args below meth c nL A P Q kc ks (pc + 3) (lv) (tI v :: st)) : GP p l e R s m args below meth c nL A P Q kc ks (pc) (lv) (st) := fun H locs ls h1 h2 h3 => lv_sipush X.1 X.2.1 hd hv (k H locs ls h1 h2 h3)
theorem rp_lconst (X : CX p s m args c cc nL A DD own) {n : Fin 2} {v : Int64} (hd : decode cc pc = .ok (.lconst n, 1)) (hv : Int64.ofNat (n : Nat) = v) (k : GP p l e R s m args below meth c nL A P Q kc ks (pc + 1) (lv) (tL v :: st)) : GP p l e R s m args below meth c nL A P Q kc ks (pc) (lv) (st) := fun H locs ls h1 h2 h3 => lv_lconst X.1 X.2.1 hd hv (k H locs ls h1 h2 h3)
theorem rp_null (X : CX p s m args c cc nL A DD own)  (hd : decode cc pc = .ok (.aconst_null, 1))  (k : GP p l e R s m args below meth c nL A P Q kc ks (pc + 1) (lv) (tR none :: st)) : GP p l e R s m args below meth c nL A P Q kc ks (pc) (lv) (st) := fun H locs ls h1 h2 h3 => lv_null X.1 X.2.1 hd  (k H locs ls h1 h2 h3)
theorem rp_dup (X : CX p s m args c cc nL A DD own) {x : TV} (hd : decode cc pc = .ok (.dup, 1)) (hx : tw_ x = 1) (k : GP p l e R s m args below meth c nL A P Q kc ks (pc + 1) (lv) (x :: x :: st)) : GP p l e R s m args below meth c nL A P Q kc ks (pc) (lv) (x :: st) := fun H locs ls h1 h2 h3 => lv_dup X.1 X.2.1 hd (by rw [tv_cat]; exact hx) (k H locs ls h1 h2 h3)
theorem rp_pop (X : CX p s m args c cc nL A DD own) {x : TV} (hd : decode cc pc = .ok (.pop, 1)) (hx : tw_ x = 1) (k : GP p l e R s m args below meth c nL A P Q kc ks (pc + 1) (lv) (st)) : GP p l e R s m args below meth c nL A P Q kc ks (pc) (lv) (x :: st) := fun H locs ls h1 h2 h3 => lv_pop X.1 X.2.1 hd (by rw [tv_cat]; exact hx) (k H locs ls h1 h2 h3)
theorem rp_dup2 (X : CX p s m args c cc nL A DD own) {x y : TV} (hd : decode cc pc = .ok (.dup2, 1)) (hx : tw_ x = 1) (hy : tw_ y = 1) (k : GP p l e R s m args below meth c nL A P Q kc ks (pc + 1) (lv) (x :: y :: x :: y :: st)) : GP p l e R s m args below meth c nL A P Q kc ks (pc) (lv) (x :: y :: st) := fun H locs ls h1 h2 h3 => lv_dup2_11 X.1 X.2.1 hd (by rw [tv_cat]; exact hx) (by rw [tv_cat]; exact hy) (k H locs ls h1 h2 h3)
theorem rp_ldc (X : CX p s m args c cc nL A DD own) {index : Nat} {v : Int32} (hd : decode cc pc = .ok (.ldc index, 2)) (hw : Cond.constant own index v ∈ lw_tbl) (k : GP p l e R s m args below meth c nL A P Q kc ks (pc + 2) (lv) (tI v :: st)) : GP p l e R s m args below meth c nL A P Q kc ks (pc) (lv) (st) := fun H locs ls h1 h2 h3 => lv_ldc X.1 X.2.1 X.2.2.2.1 (X.2.2.2.2.1 _ hw rfl) hd (k H locs ls h1 h2 h3)
theorem rp_ldc2 (X : CX p s m args c cc nL A DD own) {index : Nat} {v : Int64} (hd : decode cc pc = .ok (.ldc2_w index, 3)) (hw : Cond.constantLong own index v ∈ lw_tbl) (k : GP p l e R s m args below meth c nL A P Q kc ks (pc + 3) (lv) (tL v :: st)) : GP p l e R s m args below meth c nL A P Q kc ks (pc) (lv) (st) := fun H locs ls h1 h2 h3 => lv_ldc2 X.1 X.2.1 X.2.2.2.1 (X.2.2.2.2.1 _ hw rfl) hd (k H locs ls h1 h2 h3)
theorem rp_ldcw (X : CX p s m args c cc nL A DD own) {index : Nat} {v : Int32} (hd : decode cc pc = .ok (.ldc_w index, 3)) (hw : Cond.constant own index v ∈ lw_tbl) (k : GP p l e R s m args below meth c nL A P Q kc ks (pc + 3) (lv) (tI v :: st)) : GP p l e R s m args below meth c nL A P Q kc ks (pc) (lv) (st) := fun H locs ls h1 h2 h3 => lv_ldcw X.1 X.2.1 X.2.2.2.1 (X.2.2.2.2.1 _ hw rfl) hd (k H locs ls h1 h2 h3)
theorem rp_iload_n (X : CX p s m args c cc nL A DD own) {f : Fin 4} {i : Nat} {x : Int32} (hd : decode cc pc = .ok (.iload_n f, 1)) (hi : (f : Nat) = i) (j : Nat) (hj : lv[j]? = some (i, tI x)) (k : GP p l e R s m args below meth c nL A P Q kc ks (pc + 1) (lv) (tI x :: st)) : GP p l e R s m args below meth c nL A P Q kc ks (pc) (lv) (st) := fun H locs ls h1 h2 h3 => lv_iload_n X.1 X.2.1 hd hi (lv_at h3 j (lvm_at hj)) (k H locs ls h1 h2 h3)
theorem rp_iload (X : CX p s m args c cc nL A DD own) {i : Nat} {x : Int32} (hd : decode cc pc = .ok (.iload i, 2)) (j : Nat) (hj : lv[j]? = some (i, tI x)) (k : GP p l e R s m args below meth c nL A P Q kc ks (pc + 2) (lv) (tI x :: st)) : GP p l e R s m args below meth c nL A P Q kc ks (pc) (lv) (st) := fun H locs ls h1 h2 h3 => lv_iload X.1 X.2.1 hd (lv_at h3 j (lvm_at hj)) (k H locs ls h1 h2 h3)
theorem rp_lload_n (X : CX p s m args c cc nL A DD own) {f : Fin 4} {i : Nat} {x : Int64} (hd : decode cc pc = .ok (.lload_n f, 1)) (hi : (f : Nat) = i) (j : Nat) (hj : lv[j]? = some (i, tL x)) (k : GP p l e R s m args below meth c nL A P Q kc ks (pc + 1) (lv) (tL x :: st)) : GP p l e R s m args below meth c nL A P Q kc ks (pc) (lv) (st) := fun H locs ls h1 h2 h3 => lv_lload_n X.1 X.2.1 hd hi (lv_at h3 j (lvm_at hj)) (k H locs ls h1 h2 h3)
theorem rp_lload (X : CX p s m args c cc nL A DD own) {i : Nat} {x : Int64} (hd : decode cc pc = .ok (.lload i, 2)) (j : Nat) (hj : lv[j]? = some (i, tL x)) (k : GP p l e R s m args below meth c nL A P Q kc ks (pc + 2) (lv) (tL x :: st)) : GP p l e R s m args below meth c nL A P Q kc ks (pc) (lv) (st) := fun H locs ls h1 h2 h3 => lv_lload X.1 X.2.1 hd (lv_at h3 j (lvm_at hj)) (k H locs ls h1 h2 h3)
theorem rp_aload_n (X : CX p s m args c cc nL A DD own) {f : Fin 4} {i : Nat} {x : Option Nat} (hd : decode cc pc = .ok (.aload_n f, 1)) (hi : (f : Nat) = i) (j : Nat) (hj : lv[j]? = some (i, tR x)) (k : GP p l e R s m args below meth c nL A P Q kc ks (pc + 1) (lv) (tR x :: st)) : GP p l e R s m args below meth c nL A P Q kc ks (pc) (lv) (st) := by
  intro H locs ls h1 h2 h3
  cases x with
  | none => exact lv_aload_nN X.1 X.2.1 hd hi (lv_at h3 j (lvm_at hj)) (k H locs ls h1 h2 h3)
  | some a => exact lv_aload_n X.1 X.2.1 hd hi (lv_at h3 j (lvm_at hj)) (k H locs ls h1 h2 h3)
theorem rp_aload (X : CX p s m args c cc nL A DD own) {i : Nat} {x : Option Nat} (hd : decode cc pc = .ok (.aload i, 2)) (j : Nat) (hj : lv[j]? = some (i, tR x)) (k : GP p l e R s m args below meth c nL A P Q kc ks (pc + 2) (lv) (tR x :: st)) : GP p l e R s m args below meth c nL A P Q kc ks (pc) (lv) (st) := by
  intro H locs ls h1 h2 h3
  cases x with
  | none => exact lv_aloadN X.1 X.2.1 hd (lv_at h3 j (lvm_at hj)) (k H locs ls h1 h2 h3)
  | some a => exact lv_aload X.1 X.2.1 hd (lv_at h3 j (lvm_at hj)) (k H locs ls h1 h2 h3)
theorem rp_istore_n (X : CX p s m args c cc nL A DD own) (js : List Nat) {lv' : List (Nat × TV)} {f : Fin 4} {i : Nat} {x : Int32} (hd : decode cc pc = .ok (.istore_n f, 1)) (hi : (f : Nat) = i) (hn : i < nL) (hl : tv_pick ((i, tI x) :: lv.filter (lk1 i)) js = lv') (k : GP p l e R s m args below meth c nL A P Q kc ks (pc + 1) (lv') (st)) : GP p l e R s m args below meth c nL A P Q kc ks (pc) (lv) (tI x :: st) := fun H locs ls h1 h2 h3 => lv_istore_n X.1 X.2.1 hd hi h3 hn rfl (fun ls' h => k H locs ls' h1 h2 (lv_mono h (lk1_in hl)))
theorem rp_istore (X : CX p s m args c cc nL A DD own) (js : List Nat) {lv' : List (Nat × TV)} {i : Nat} {x : Int32} (hd : decode cc pc = .ok (.istore i, 2)) (hn : i < nL) (hl : tv_pick ((i, tI x) :: lv.filter (lk1 i)) js = lv') (k : GP p l e R s m args below meth c nL A P Q kc ks (pc + 2) (lv') (st)) : GP p l e R s m args below meth c nL A P Q kc ks (pc) (lv) (tI x :: st) := fun H locs ls h1 h2 h3 => lv_istore X.1 X.2.1 hd h3 hn rfl (fun ls' h => k H locs ls' h1 h2 (lv_mono h (lk1_in hl)))
theorem rp_lstore_n (X : CX p s m args c cc nL A DD own) (js : List Nat) {lv' : List (Nat × TV)} {f : Fin 4} {i : Nat} {x : Int64} (hd : decode cc pc = .ok (.lstore_n f, 1)) (hi : (f : Nat) = i) (hn : i + 1 < nL) (hl : tv_pick ((i, tL x) :: lv.filter (lk2 i)) js = lv') (k : GP p l e R s m args below meth c nL A P Q kc ks (pc + 1) (lv') (st)) : GP p l e R s m args below meth c nL A P Q kc ks (pc) (lv) (tL x :: st) := fun H locs ls h1 h2 h3 => lv_lstore_n X.1 X.2.1 hd hi h3 hn rfl (fun ls' h => k H locs ls' h1 h2 (lv_mono h (lk2_in hl)))
theorem rp_lstore (X : CX p s m args c cc nL A DD own) (js : List Nat) {lv' : List (Nat × TV)} {i : Nat} {x : Int64} (hd : decode cc pc = .ok (.lstore i, 2)) (hn : i + 1 < nL) (hl : tv_pick ((i, tL x) :: lv.filter (lk2 i)) js = lv') (k : GP p l e R s m args below meth c nL A P Q kc ks (pc + 2) (lv') (st)) : GP p l e R s m args below meth c nL A P Q kc ks (pc) (lv) (tL x :: st) := fun H locs ls h1 h2 h3 => lv_lstore X.1 X.2.1 hd h3 hn rfl (fun ls' h => k H locs ls' h1 h2 (lv_mono h (lk2_in hl)))
theorem rp_astore_n (X : CX p s m args c cc nL A DD own) (js : List Nat) {lv' : List (Nat × TV)} {f : Fin 4} {i : Nat} {x : Option Nat} (hd : decode cc pc = .ok (.astore_n f, 1)) (hi : (f : Nat) = i) (hn : i < nL) (hl : tv_pick ((i, tR x) :: lv.filter (lk1 i)) js = lv') (k : GP p l e R s m args below meth c nL A P Q kc ks (pc + 1) (lv') (st)) : GP p l e R s m args below meth c nL A P Q kc ks (pc) (lv) (tR x :: st) := by
  intro H locs ls h1 h2 h3
  cases x with
  | none => exact lv_astore_nN X.1 X.2.1 hd hi h3 hn rfl (fun ls' h => k H locs ls' h1 h2 (lv_mono h (lk1_in hl)))
  | some a => exact lv_astore_n X.1 X.2.1 hd hi h3 hn rfl (fun ls' h => k H locs ls' h1 h2 (lv_mono h (lk1_in hl)))
theorem rp_astore (X : CX p s m args c cc nL A DD own) (js : List Nat) {lv' : List (Nat × TV)} {i : Nat} {x : Option Nat} (hd : decode cc pc = .ok (.astore i, 2)) (hn : i < nL) (hl : tv_pick ((i, tR x) :: lv.filter (lk1 i)) js = lv') (k : GP p l e R s m args below meth c nL A P Q kc ks (pc + 2) (lv') (st)) : GP p l e R s m args below meth c nL A P Q kc ks (pc) (lv) (tR x :: st) := by
  intro H locs ls h1 h2 h3
  cases x with
  | none => exact lv_astoreN X.1 X.2.1 hd h3 hn rfl (fun ls' h => k H locs ls' h1 h2 (lv_mono h (lk1_in hl)))
  | some a => exact lv_astore X.1 X.2.1 hd h3 hn rfl (fun ls' h => k H locs ls' h1 h2 (lv_mono h (lk1_in hl)))
theorem rp_iinc (X : CX p s m args c cc nL A DD own) (js : List Nat) {lv' : List (Nat × TV)} {i j : Nat} {n : Int} {x v : Int32} (hd : decode cc pc = .ok (.iinc i n, 3)) (hj : lv[j]? = some (i, tI x)) (hv : x + Int32.ofInt n = v) (hn : i < nL) (hl : tv_pick ((i, tI v) :: lv.filter (lk1 i)) js = lv') (k : GP p l e R s m args below meth c nL A P Q kc ks (pc + 3) (lv') (st)) : GP p l e R s m args below meth c nL A P Q kc ks (pc) (lv) (st) := fun H locs ls h1 h2 h3 => lv_iinc X.1 X.2.1 hd h3 (k := j) (lvm_at hj) hv hn rfl (fun ls' h => k H locs ls' h1 h2 (lv_mono h (lk1_in hl)))
theorem rp_goto (X : CX p s m args c cc nL A DD own) {off : Int} {tgt : Nat} (hd : decode cc pc = .ok (.goto off, 3)) (ht : (pc : Int) + off = (tgt : Int)) (k : GP p l e R s m args below meth c nL A P Q kc ks (tgt) (lv) (st)) : GP p l e R s m args below meth c nL A P Q kc ks (pc) (lv) (st) := fun H locs ls h1 h2 h3 => lv_goto X.1 X.2.1 hd ht (k H locs ls h1 h2 h3)
theorem rp_if_eq (X : CX p s m args c cc nL A DD own) {x : Int32} {off : Int} {tgt : Nat} (hd : decode cc pc = .ok (.ifCond .eq off, 3)) (ht : (pc : Int) + off = (tgt : Int)) (kt : x = 0 → GP p l e R s m args below meth c nL A P Q kc ks (tgt) (lv) (st)) (kf : ¬ x = 0 → GP p l e R s m args below meth c nL A P Q kc ks (pc + 3) (lv) (st)) : GP p l e R s m args below meth c nL A P Q kc ks (pc) (lv) (tI x :: st) := fun H locs ls h1 h2 h3 => lv_if_eq X.1 X.2.1 hd ht (fun q => kt q H locs ls h1 h2 h3) (fun q => kf q H locs ls h1 h2 h3)
theorem rp_if_ne (X : CX p s m args c cc nL A DD own) {x : Int32} {off : Int} {tgt : Nat} (hd : decode cc pc = .ok (.ifCond .ne off, 3)) (ht : (pc : Int) + off = (tgt : Int)) (kt : ¬ x = 0 → GP p l e R s m args below meth c nL A P Q kc ks (tgt) (lv) (st)) (kf : x = 0 → GP p l e R s m args below meth c nL A P Q kc ks (pc + 3) (lv) (st)) : GP p l e R s m args below meth c nL A P Q kc ks (pc) (lv) (tI x :: st) := fun H locs ls h1 h2 h3 => lv_if_ne X.1 X.2.1 hd ht (fun q => kt q H locs ls h1 h2 h3) (fun q => kf q H locs ls h1 h2 h3)
theorem rp_if_lt (X : CX p s m args c cc nL A DD own) {x : Int32} {off : Int} {tgt : Nat} (hd : decode cc pc = .ok (.ifCond .lt off, 3)) (ht : (pc : Int) + off = (tgt : Int)) (kt : x < 0 → GP p l e R s m args below meth c nL A P Q kc ks (tgt) (lv) (st)) (kf : ¬ x < 0 → GP p l e R s m args below meth c nL A P Q kc ks (pc + 3) (lv) (st)) : GP p l e R s m args below meth c nL A P Q kc ks (pc) (lv) (tI x :: st) := fun H locs ls h1 h2 h3 => lv_if_lt X.1 X.2.1 hd ht (fun q => kt q H locs ls h1 h2 h3) (fun q => kf q H locs ls h1 h2 h3)
theorem rp_if_ge (X : CX p s m args c cc nL A DD own) {x : Int32} {off : Int} {tgt : Nat} (hd : decode cc pc = .ok (.ifCond .ge off, 3)) (ht : (pc : Int) + off = (tgt : Int)) (kt : 0 ≤ x → GP p l e R s m args below meth c nL A P Q kc ks (tgt) (lv) (st)) (kf : ¬ 0 ≤ x → GP p l e R s m args below meth c nL A P Q kc ks (pc + 3) (lv) (st)) : GP p l e R s m args below meth c nL A P Q kc ks (pc) (lv) (tI x :: st) := fun H locs ls h1 h2 h3 => lv_if_ge X.1 X.2.1 hd ht (fun q => kt q H locs ls h1 h2 h3) (fun q => kf q H locs ls h1 h2 h3)
theorem rp_if_gt (X : CX p s m args c cc nL A DD own) {x : Int32} {off : Int} {tgt : Nat} (hd : decode cc pc = .ok (.ifCond .gt off, 3)) (ht : (pc : Int) + off = (tgt : Int)) (kt : 0 < x → GP p l e R s m args below meth c nL A P Q kc ks (tgt) (lv) (st)) (kf : ¬ 0 < x → GP p l e R s m args below meth c nL A P Q kc ks (pc + 3) (lv) (st)) : GP p l e R s m args below meth c nL A P Q kc ks (pc) (lv) (tI x :: st) := fun H locs ls h1 h2 h3 => lv_if_gt X.1 X.2.1 hd ht (fun q => kt q H locs ls h1 h2 h3) (fun q => kf q H locs ls h1 h2 h3)
theorem rp_if_le (X : CX p s m args c cc nL A DD own) {x : Int32} {off : Int} {tgt : Nat} (hd : decode cc pc = .ok (.ifCond .le off, 3)) (ht : (pc : Int) + off = (tgt : Int)) (kt : x ≤ 0 → GP p l e R s m args below meth c nL A P Q kc ks (tgt) (lv) (st)) (kf : ¬ x ≤ 0 → GP p l e R s m args below meth c nL A P Q kc ks (pc + 3) (lv) (st)) : GP p l e R s m args below meth c nL A P Q kc ks (pc) (lv) (tI x :: st) := fun H locs ls h1 h2 h3 => lv_if_le X.1 X.2.1 hd ht (fun q => kt q H locs ls h1 h2 h3) (fun q => kf q H locs ls h1 h2 h3)
theorem rp_icmp_eq (X : CX p s m args c cc nL A DD own) {x y : Int32} {off : Int} {tgt : Nat} (hd : decode cc pc = .ok (.if_icmp .eq off, 3)) (ht : (pc : Int) + off = (tgt : Int)) (kt : x = y → GP p l e R s m args below meth c nL A P Q kc ks (tgt) (lv) (st)) (kf : ¬ x = y → GP p l e R s m args below meth c nL A P Q kc ks (pc + 3) (lv) (st)) : GP p l e R s m args below meth c nL A P Q kc ks (pc) (lv) (tI y :: tI x :: st) := fun H locs ls h1 h2 h3 => lv_icmp_eq X.1 X.2.1 hd ht (fun q => kt q H locs ls h1 h2 h3) (fun q => kf q H locs ls h1 h2 h3)
theorem rp_icmp_ne (X : CX p s m args c cc nL A DD own) {x y : Int32} {off : Int} {tgt : Nat} (hd : decode cc pc = .ok (.if_icmp .ne off, 3)) (ht : (pc : Int) + off = (tgt : Int)) (kt : ¬ x = y → GP p l e R s m args below meth c nL A P Q kc ks (tgt) (lv) (st)) (kf : x = y → GP p l e R s m args below meth c nL A P Q kc ks (pc + 3) (lv) (st)) : GP p l e R s m args below meth c nL A P Q kc ks (pc) (lv) (tI y :: tI x :: st) := fun H locs ls h1 h2 h3 => lv_icmp_ne X.1 X.2.1 hd ht (fun q => kt q H locs ls h1 h2 h3) (fun q => kf q H locs ls h1 h2 h3)
theorem rp_icmp_lt (X : CX p s m args c cc nL A DD own) {x y : Int32} {off : Int} {tgt : Nat} (hd : decode cc pc = .ok (.if_icmp .lt off, 3)) (ht : (pc : Int) + off = (tgt : Int)) (kt : x < y → GP p l e R s m args below meth c nL A P Q kc ks (tgt) (lv) (st)) (kf : ¬ x < y → GP p l e R s m args below meth c nL A P Q kc ks (pc + 3) (lv) (st)) : GP p l e R s m args below meth c nL A P Q kc ks (pc) (lv) (tI y :: tI x :: st) := fun H locs ls h1 h2 h3 => lv_icmp_lt X.1 X.2.1 hd ht (fun q => kt q H locs ls h1 h2 h3) (fun q => kf q H locs ls h1 h2 h3)
theorem rp_icmp_ge (X : CX p s m args c cc nL A DD own) {x y : Int32} {off : Int} {tgt : Nat} (hd : decode cc pc = .ok (.if_icmp .ge off, 3)) (ht : (pc : Int) + off = (tgt : Int)) (kt : y ≤ x → GP p l e R s m args below meth c nL A P Q kc ks (tgt) (lv) (st)) (kf : ¬ y ≤ x → GP p l e R s m args below meth c nL A P Q kc ks (pc + 3) (lv) (st)) : GP p l e R s m args below meth c nL A P Q kc ks (pc) (lv) (tI y :: tI x :: st) := fun H locs ls h1 h2 h3 => lv_icmp_ge X.1 X.2.1 hd ht (fun q => kt q H locs ls h1 h2 h3) (fun q => kf q H locs ls h1 h2 h3)
theorem rp_icmp_gt (X : CX p s m args c cc nL A DD own) {x y : Int32} {off : Int} {tgt : Nat} (hd : decode cc pc = .ok (.if_icmp .gt off, 3)) (ht : (pc : Int) + off = (tgt : Int)) (kt : y < x → GP p l e R s m args below meth c nL A P Q kc ks (tgt) (lv) (st)) (kf : ¬ y < x → GP p l e R s m args below meth c nL A P Q kc ks (pc + 3) (lv) (st)) : GP p l e R s m args below meth c nL A P Q kc ks (pc) (lv) (tI y :: tI x :: st) := fun H locs ls h1 h2 h3 => lv_icmp_gt X.1 X.2.1 hd ht (fun q => kt q H locs ls h1 h2 h3) (fun q => kf q H locs ls h1 h2 h3)
theorem rp_icmp_le (X : CX p s m args c cc nL A DD own) {x y : Int32} {off : Int} {tgt : Nat} (hd : decode cc pc = .ok (.if_icmp .le off, 3)) (ht : (pc : Int) + off = (tgt : Int)) (kt : x ≤ y → GP p l e R s m args below meth c nL A P Q kc ks (tgt) (lv) (st)) (kf : ¬ x ≤ y → GP p l e R s m args below meth c nL A P Q kc ks (pc + 3) (lv) (st)) : GP p l e R s m args below meth c nL A P Q kc ks (pc) (lv) (tI y :: tI x :: st) := fun H locs ls h1 h2 h3 => lv_icmp_le X.1 X.2.1 hd ht (fun q => kt q H locs ls h1 h2 h3) (fun q => kf q H locs ls h1 h2 h3)
theorem rp_acmp_eq (X : CX p s m args c cc nL A DD own) {x y : Option Nat} {off : Int} {tgt : Nat} (hd : decode cc pc = .ok (.if_acmp .eq off, 3)) (ht : (pc : Int) + off = (tgt : Int)) (kt : x = y → GP p l e R s m args below meth c nL A P Q kc ks (tgt) (lv) (st)) (kf : ¬ x = y → GP p l e R s m args below meth c nL A P Q kc ks (pc + 3) (lv) (st)) : GP p l e R s m args below meth c nL A P Q kc ks (pc) (lv) (tR y :: tR x :: st) := fun H locs ls h1 h2 h3 => lv_acmp_eq X.1 X.2.1 hd ht (fun q => kt q H locs ls h1 h2 h3) (fun q => kf q H locs ls h1 h2 h3)
theorem rp_acmp_ne (X : CX p s m args c cc nL A DD own) {x y : Option Nat} {off : Int} {tgt : Nat} (hd : decode cc pc = .ok (.if_acmp .ne off, 3)) (ht : (pc : Int) + off = (tgt : Int)) (kt : ¬ x = y → GP p l e R s m args below meth c nL A P Q kc ks (tgt) (lv) (st)) (kf : x = y → GP p l e R s m args below meth c nL A P Q kc ks (pc + 3) (lv) (st)) : GP p l e R s m args below meth c nL A P Q kc ks (pc) (lv) (tR y :: tR x :: st) := fun H locs ls h1 h2 h3 => lv_acmp_ne X.1 X.2.1 hd ht (fun q => kt q H locs ls h1 h2 h3) (fun q => kf q H locs ls h1 h2 h3)
theorem rp_ifnull (X : CX p s m args c cc nL A DD own) {x : Option Nat} {off : Int} {tgt : Nat} (hd : decode cc pc = .ok (.ifnull off, 3)) (ht : (pc : Int) + off = (tgt : Int)) (kt : x = none → GP p l e R s m args below meth c nL A P Q kc ks (tgt) (lv) (st)) (kf : ¬ x = none → GP p l e R s m args below meth c nL A P Q kc ks (pc + 3) (lv) (st)) : GP p l e R s m args below meth c nL A P Q kc ks (pc) (lv) (tR x :: st) := by
  intro H locs ls h1 h2 h3
  cases x with
  | none => exact lv_ifnullN X.1 X.2.1 hd ht (kt rfl H locs ls h1 h2 h3)
  | some a => exact lv_ifnull X.1 X.2.1 hd (kf (fun z => by cases z) H locs ls h1 h2 h3)
theorem rp_ifnonnull (X : CX p s m args c cc nL A DD own) {x : Option Nat} {off : Int} {tgt : Nat} (hd : decode cc pc = .ok (.ifnonnull off, 3)) (ht : (pc : Int) + off = (tgt : Int)) (kt : ¬ x = none → GP p l e R s m args below meth c nL A P Q kc ks (tgt) (lv) (st)) (kf : x = none → GP p l e R s m args below meth c nL A P Q kc ks (pc + 3) (lv) (st)) : GP p l e R s m args below meth c nL A P Q kc ks (pc) (lv) (tR x :: st) := by
  intro H locs ls h1 h2 h3
  cases x with
  | none => exact lv_ifnonnullN X.1 X.2.1 hd (kf rfl H locs ls h1 h2 h3)
  | some a => exact lv_ifnonnull X.1 X.2.1 hd ht (kt (fun z => by cases z) H locs ls h1 h2 h3)
theorem rp_tableIn (X : CX p s m args c cc nL A DD own) {dflt lo hi : Int} {offs : Array Int} {len : Nat} {x : Int32} {off : Int} {tgt : Nat} (hd : decode cc pc = .ok (.tableswitch dflt lo hi offs, len)) (h1 : ¬ x.toInt < lo) (h2 : ¬ hi < x.toInt) (ho : offs[(x.toInt - lo).toNat]? = some off) (ht : (pc : Int) + off = (tgt : Int)) (k : GP p l e R s m args below meth c nL A P Q kc ks (tgt) (lv) (st)) : GP p l e R s m args below meth c nL A P Q kc ks (pc) (lv) (tI x :: st) := fun H locs ls g1 g2 g3 => lv_tableIn X.1 X.2.1 hd h1 h2 ho ht (k H locs ls g1 g2 g3)
theorem rp_tableOut (X : CX p s m args c cc nL A DD own) {dflt lo hi : Int} {offs : Array Int} {len : Nat} {x : Int32} {tgt : Nat} (hd : decode cc pc = .ok (.tableswitch dflt lo hi offs, len)) (h : x.toInt < lo ∨ hi < x.toInt) (ht : (pc : Int) + dflt = (tgt : Int)) (k : GP p l e R s m args below meth c nL A P Q kc ks (tgt) (lv) (st)) : GP p l e R s m args below meth c nL A P Q kc ks (pc) (lv) (tI x :: st) := fun H locs ls g1 g2 g3 => lv_tableOut X.1 X.2.1 hd h ht (k H locs ls g1 g2 g3)
theorem rp_sub (js : List Nat) {lv' : List (Nat × TV)} (hl : tv_pick lv js = lv') (k : GP p l e R s m args below meth c nL A P Q kc ks (pc) (lv') (st)) : GP p l e R s m args below meth c nL A P Q kc ks (pc) (lv) (st) := fun H locs ls h1 h2 h3 => k H locs ls h1 h2 (lv_mono h3 (lvm_sub (tv_pick_sub hl)))
theorem rp_widen {kc2 ks2 : Nat} (h1 : kc ≤ kc2) (h2 : ks ≤ ks2) (k : GP p l e R s m args below meth c nL A P Q kc2 ks2 (pc) (lv) (st)) : GP p l e R s m args below meth c nL A P Q kc ks (pc) (lv) (st) := fun H locs ls g1 g2 g3 => W.widen h1 h2 (k H locs ls g1 g2 g3)
theorem rp_swap (k : GP p l e R s m args below meth c nL A (W2 A DD τ σ) Q kc ks (pc) (lv) (st)) : GP p l e R s m args below meth c nL A (W2 A DD σ τ) Q kc ks (pc) (lv) (st) := fun H locs ls h1 h2 h3 => k H locs ls h1.swap h2 h3
theorem rp_slen (X : CX p s m args c cc nL A DD own) {b L : Nat} {xs : Nat → Int32} (hX : va_X b L xs s s.heap) (hbl : b < s.heap.size) (hbA : ¬ A b) (hd : decode cc pc = .ok (.arraylength, 1)) (k : GP p l e R s m args below meth c nL A P Q kc ks (pc + 1) (lv) (tI (Int32.ofNat L) :: st)) : GP p l e R s m args below meth c nL A P Q kc ks (pc) (lv) (tR (some b) :: st) := fun H locs ls h1 h2 h3 => va_slen X.1 X.2.1 hX hbl hbA h2 hd (k H locs ls h1 h2 h3)
theorem rp_sld (X : CX p s m args c cc nL A DD own) {b L : Nat} {xs : Nat → Int32} (hX : va_X b L xs s s.heap) (hbl : b < s.heap.size) (hbA : ¬ A b) {i : Int32} {j : Nat} (hg : ix_ i L = some j) (hd : decode cc pc = .ok (.iaload, 1)) (k : GP p l e R s m args below meth c nL A P Q kc ks (pc + 1) (lv) (tI (xs j) :: st)) : GP p l e R s m args below meth c nL A P Q kc ks (pc) (lv) (tI i :: tR (some b) :: st) := by
  intro H locs ls h1 h2 h3
  obtain ⟨hin, rfl⟩ := ix_spec hg
  exact va_sld X.1 X.2.1 hX hbl hbA h2 hin hd (k H locs ls h1 h2 h3)
theorem rp_al_L (X : CX p s m args c cc nL A DD own) {r : Option Nat} {i : Int32} {x : Int64} (hg : al_L σ 1 r i = some x) (hd : decode cc pc = .ok (.laload, 1)) (k : GP p l e R s m args below meth c nL A (W2 A DD σ τ) Q kc ks (pc + 1) (lv) (tL x :: st)) : GP p l e R s m args below meth c nL A (W2 A DD σ τ) Q kc ks (pc) (lv) (tI i :: tR r :: st) := by
  intro H locs ls h1 h2 h3
  obtain ⟨⟨a, n, f⟩, ha, hx⟩ := obind hg
  obtain ⟨rfl, hc⟩ := ar_L_spec ha
  obtain ⟨j, hj, rfl⟩ := omap hx
  obtain ⟨hin, rfl⟩ := ix_spec hj
  obtain ⟨g1, q, g2, g3⟩ := h1.1.2.2 a 1 _ hc
  cases g2
  exact va_lald X.1 X.2.1 X.2.2.2.2.2.1.1 (D := DD.1) (cl := kcl) (ws := [(a, .inl (DD.2.1 1, n, .inr (.inl f)))]) (fun k q hk => by
    have hz : k < 1 := (List.getElem?_eq_some_iff.mp hk).1
    rw [show k = 0 by omega] at hk
    cases hk
    exact g3) 0 1 rfl rfl hin hd (k H locs ls h1 h2 h3)
theorem rp_new (X : CX p s m args c cc nL A DD own) {ci index : Nat} (hci : ci < 12) (hw : Cond.classLink own index (kR ci) ∈ lw_tbl) (hw2 : Cond.instantiable (kR ci) (kN ci) ∈ lw_tbl) (hw3 : Cond.initialized (kR ci) ∈ lw_tbl) (hkc : kc + 1 ≤ R.cells) (hks : ks + kN ci ≤ R.slots) (hd : decode cc pc = .ok (.new index, 3)) (kk : GP p l e R s m args below meth c nL A (W2 A DD (nw_O σ ci) (bmp (hp_N σ + 1) τ)) Q (kc + 1) (ks + kN ci) (pc + 3) (lv) (tR (some (hp_N σ)) :: st)) : GP p l e R s m args below meth c nL A (W2 A DD σ τ) Q kc ks (pc) (lv) (st) := by
  intro H locs ls h1 h2 h3
  have hK := X.2.2.2.2.2.1.1
  have hKn := hK.1 ci _ (kcl_at hci)
  refine W.newcK X.1 X.2.1 X.2.2.2.1 (X.2.2.2.2.1 _ hw rfl) (X.2.2.2.2.1 _ hw2 rfl) (X.2.2.2.2.1 _ hw3 rfl) rfl hd hkc hks hKn.2.1 rfl fun H1 kC hkC e1 z1 o1 => ?_
  have hA : A H.size := X.2.2.2.2.2.2 _ h2.1
  have hb := u_born (kY ci) (lays_all X.2.2.2.2.1 hci) (fun _ h => h) hKn hkC e1 (kY_ok hci)
  have hN : H.size = hp_N σ := h1.1.1
  have hb' := hb.to (V' := fun k => fv (nw_O σ ci) ci k H.size) fun k hk => by rw [hN]; exact (fv_nwO_new (ktys hci hk)).symm
  have w := h1.1.newO hci hA z1 o1 hb'
  have ws := h1.1.self.newO hci (Or.inr (by rw [hN]; exact Nat.le_refl _)) z1 o1 hb'
  rw [hN]
  exact kk H1 locs ls ⟨w, h1.2.1.other h1.2.2 w hN (fun q a1 _ => o1 q a1), h1.2.2.moved h1.2.1 hN ws _⟩ ⟨Nat.le_trans h2.1 (by omega), fun x q1 q2 => (o1 x (Nat.lt_of_lt_of_le q1 h2.1)).trans (h2.2.1 x q1 q2), h2.2.2⟩ h3
theorem rp_newa_L (X : CX p s m args c cc nL A DD own) {n : Int32} (M : Nat) (hn : ¬ (n < 0 ∨ M < n.toNatClampNeg)) (hM : M ≤ 65536) (hkc : kc + 1 ≤ R.cells) (hks : ks + M ≤ R.slots) (hd : decode cc pc = .ok (.newarray .long, 2)) (hw : Cond.arrayClass .long ∈ lw_tbl) (kk : GP p l e R s m args below meth c nL A (W2 A DD (nw_A σ (1, n.toNatClampNeg, .inr (.inl (fun _ => 0)))) (bmp (hp_N σ + 1) τ)) Q (kc + 1) (ks + M) (pc + 2) (lv) (tR (some (hp_N σ)) :: st)) : GP p l e R s m args below meth c nL A (W2 A DD σ τ) Q kc ks (pc) (lv) (tI n :: st) := by
  intro H locs ls h1 h2 h3
  have hK := X.2.2.2.2.2.1.1
  have hn0 : ¬ n < 0 := fun z => hn (Or.inl z)
  have hnM : n.toNatClampNeg ≤ M := Nat.not_lt.mp fun z => hn (Or.inr z)
  refine va_newaK X.1 X.2.1 (atype := .long) (X.2.2.2.2.1 _ hw rfl) rfl hd rfl hn0 rfl (by show n.toNatClampNeg * 8 ≤ _; omega) hkc (by omega) rfl fun H1 cA e1 z1 o1 hAr hNm => ?_
  have hA : A H.size := X.2.2.2.2.2.2 _ h2.1
  have hcA : cA = DD.2.1 1 := Option.some.inj (hNm.symm.trans (hK.2 1 _ rfl).2)
  subst hcA
  have hN : H.size = hp_N σ := h1.1.1
  have w := h1.1.newA (t := 1) (y := (n.toNatClampNeg, .inr (.inl (fun _ => 0)))) hA rfl z1 o1 e1
  have ws := h1.1.self.newA (t := 1) (y := (n.toNatClampNeg, .inr (.inl (fun _ => 0)))) (Or.inr (by rw [hN]; exact Nat.le_refl _)) rfl z1 o1 e1
  refine W.widen (Nat.le_refl _) (by omega : ks + n.toNatClampNeg ≤ ks + M) ?_
  show W p l e R s m args below meth c H1 locs (kc + 1) (ks + M) Q (F0 m (pc + 2) ls (.ref H.size :: st.map tv))
  rw [hN]
  exact kk H1 locs ls ⟨w, h1.2.1.other h1.2.2 w hN (fun q a1 _ => o1 q a1), h1.2.2.moved h1.2.1 hN ws _⟩ ⟨Nat.le_trans h2.1 (by omega), fun x q1 q2 => (o1 x (Nat.lt_of_lt_of_le q1 h2.1)).trans (h2.2.1 x q1 q2), h2.2.2⟩ h3
theorem rp_run {mc ms : Nat} {H : Heap} {locs : List Loc} {ls : Array Slot} {st0 rest : List Value} {res : Option TV} {σ' : Hp} {a : Array Value} (hA : ∀ q, s.heap.size ≤ q → A q) (h1 : W2 A DD σ τ H) (h2 : va_S A s.heap H locs) (hr : va_Run p l e R s m args below meth c H locs kc ks mc ms (F0 m pc ls st0) rest (Post DD σ res σ' a) (dm σ))
    (kk : ∀ (H1 : Heap) (locs1 : List Loc), W2 A DD σ' (bmp (hp_N σ') τ) H1 → va_S A s.heap H1 locs1 → W p l e R s m args below meth c H1 locs1 (kc + mc) (ks + ms) Q (F0 m (pc + 3) ls ((res.map tv).toList ++ rest))) : W p l e R s m args below meth c H locs kc ks Q (F0 m pc ls st0) := by
  intro T hT X
  obtain ⟨v, st₀, t, T', L, h0, X', hL, e1, e2, ⟨⟨hv, hw⟩, hz, hk⟩, sg⟩ := hr T hT X
  cases hv
  rw [h0] at hz hk
  have hin := h1.1.in (fun q h => hA q (Nat.le_trans h2.1 h))
  have hN : H.size = hp_N σ := h1.1.1
  obtain ⟨t2, a1, b1⟩ := kk T'.heap (locs ++ L) (by rw [e1]; exact ⟨hw.mono hin, h1.2.1.other h1.2.2 hw hN hk, h1.2.2.moved h1.2.1 hN hw _⟩) ⟨Nat.le_trans h2.1 (by rw [e1]; exact hz), fun q q1 q2 => by rw [e1, hk q (Nat.lt_of_lt_of_le q1 h2.1) (fun z => q2 (hin q z))]; exact h2.2.1 q q1 q2, fun q hq => by
      rcases List.mem_append.mp hq with h | h
      · exact h2.2.2 q h
      · exact hin _ (hL q h)⟩ T' rfl X'
  exact ⟨t2, sg t2 a1, b1⟩
theorem rp_callV (X : CX p s m args c cc nL A DD own) {y : MethodName} {bytes : ByteArray} {maxL index n : Nat} {ret : Option FieldType} {rm : Room} (As : List TV) {res : Option TV} {σ' : Hp} {r : Option Nat} {ci b : Nat} (hr : is_O σ r ci = some b) (hci : ci < 12) (hl : Cond.methodLink own index y ∈ lw_tbl) (hin : Cond.instanceMethod y ∈ lw_tbl) (hsel : Cond.selects (kR ci) y y ∈ lw_tbl) (hM : CT l DD y bytes maxL ret rm (tR r :: As) σ res σ') (hcd : Cond.code y bytes maxL ret ∈ lw_tbl) (hini : Cond.initialized y.cls ∈ lw_tbl) (hdd : y.cls ≠ "java/lang/invoke/MethodHandle" ∧ y.cls ≠ "java/lang/invoke/VarHandle" ∧ (parseMethodDescriptor y.desc).map (fun d => d.parameters.length) = some n) (hn : As.length = n) (hR : rm.frames + 1 ≤ R.frames ∧ 8 + (maxL + 11) + rm.locals ≤ R.locals) (hroom : (st.map tw_).sum ≤ 8) (hf : kc + rm.cells ≤ R.cells ∧ ks + rm.slots ≤ R.slots) (hd : decode cc pc = .ok (.invokevirtual index, 3)) (kk : GP p l e R s m args below meth c nL A (W2 A DD σ' (bmp (hp_N σ') τ)) Q (kc + rm.cells) (ks + rm.slots) (pc + 3) (lv) (res.toList ++ st)) : GP p l e R s m args below meth c nL A (W2 A DD σ τ) Q kc ks (pc) (lv) (As.reverse ++ tR r :: st) := by
  intro H locs ls h1 h2 h3
  have ht : ∀ w ∈ lw_tbl.filter goodWord, w.before args s = true := fun w hw => X.2.2.2.2.1 w (List.mem_filter.mp hw).1 (List.mem_filter.mp hw).2
  obtain ⟨rfl, hc⟩ := is_O_spec hr
  obtain ⟨g1, g2, g3, cell, q1, q2, q3, q4⟩ := h1.1.2.1 b ci hc
  refine rp_run X.2.2.2.2.2.2 h1 h2 (va_runV (As := As.map tv) (rest := st.map tv) (b := b) (C := kR ci) (g := F0 m pc ls ((As.reverse ++ tR (some b) :: st).map tv)) ⟨X.1, X.2.1, X.2.2.1, X.2.2.2.1, ht⟩ hM ⟨callB_of n ht (wsM_good hcd) rfl rfl rfl (X.2.2.2.2.1 _ hini rfl) (X.2.2.2.2.1 _ hl rfl) hdd hR, X.2.2.2.2.1 _ hin rfl, X.2.2.2.2.1 _ hsel rfl⟩ ⟨Pre_blind, ⟨cell, q1, by rw [q3]; rfl, by rw [q2]; exact (X.2.2.2.2.2.1.1.1 ci _ (kcl_at hci)).2.1⟩, pre_in X h1.1 h2⟩ rfl (by rw [List.length_map]; exact hn) h3.1 (by show (List.map tv (As.reverse ++ tR (some b) :: st)) = _; rw [List.map_append, List.map_reverse]; rfl) (lv_room (m := m) (pc := pc) (ls := ls) (rest := ((As.reverse ++ tR (some b) :: st).map tv)) (by rw [tv_cats]; exact hroom)) hd hf) fun H1 locs1 w1 w2 => ?_
  rw [ret_stk]
  exact kk H1 locs1 ls w1 w2 h3
theorem rp_callI (X : CX p s m args c cc nL A DD own) {y : MethodName} {bytes : ByteArray} {maxL index n : Nat} {ret : Option FieldType} {rm : Room} (As : List TV) {res : Option TV} {σ' : Hp} {r : Option Nat} {b : Nat} (hr : r = some b) (hl : Cond.methodLink own index y ∈ lw_tbl) (hin : Cond.instanceMethod y ∈ lw_tbl) (hy1 : y.name = "<init>") (hM : CT l DD y bytes maxL none rm (tR r :: As) σ res σ') (hcd : Cond.code y bytes maxL none ∈ lw_tbl) (hini : Cond.initialized y.cls ∈ lw_tbl) (hdd : y.cls ≠ "java/lang/invoke/MethodHandle" ∧ y.cls ≠ "java/lang/invoke/VarHandle" ∧ (parseMethodDescriptor y.desc).map (fun d => d.parameters.length) = some n) (hn : As.length = n) (hR : rm.frames + 1 ≤ R.frames ∧ 8 + (maxL + 11) + rm.locals ≤ R.locals) (hroom : (st.map tw_).sum ≤ 8) (hf : kc + rm.cells ≤ R.cells ∧ ks + rm.slots ≤ R.slots) (hd : decode cc pc = .ok (.invokespecial index, 3)) (kk : GP p l e R s m args below meth c nL A (W2 A DD σ' (bmp (hp_N σ') τ)) Q (kc + rm.cells) (ks + rm.slots) (pc + 3) (lv) (res.toList ++ st)) : GP p l e R s m args below meth c nL A (W2 A DD σ τ) Q kc ks (pc) (lv) (As.reverse ++ tR r :: st) := by
  intro H locs ls h1 h2 h3
  have ht : ∀ w ∈ lw_tbl.filter goodWord, w.before args s = true := fun w hw => X.2.2.2.2.1 w (List.mem_filter.mp hw).1 (List.mem_filter.mp hw).2
  subst hr
  refine rp_run X.2.2.2.2.2.2 h1 h2 (va_runI (As := As.map tv) (rest := st.map tv) (b := b) (g := F0 m pc ls ((As.reverse ++ tR (some b) :: st).map tv)) ⟨X.1, X.2.1, X.2.2.1, X.2.2.2.1, ht⟩ hM ⟨callB_of n ht (wsM_good hcd) rfl rfl rfl (X.2.2.2.2.1 _ hini rfl) (X.2.2.2.2.1 _ hl rfl) hdd hR, hy1, X.2.2.2.2.1 _ hin rfl⟩ ⟨Pre_blind, pre_in (As := tR (some b) :: As) X h1.1 h2⟩ rfl (by rw [List.length_map]; exact hn) h3.1 (by show (List.map tv (As.reverse ++ tR (some b) :: st)) = _; rw [List.map_append, List.map_reverse]; rfl) (lv_room (m := m) (pc := pc) (ls := ls) (rest := ((As.reverse ++ tR (some b) :: st).map tv)) (by rw [tv_cats]; exact hroom)) hd hf) fun H1 locs1 w1 w2 => ?_
  rw [ret_stk]
  exact kk H1 locs1 ls w1 w2 h3
theorem rp_callSW (X : CX p s m args c cc nL A DD own) {y : MethodName} {bytes : ByteArray} {maxL index n : Nat} {ret : Option FieldType} {rm : Room} (As : List TV) {res : Option TV} {σ' : Hp} {hh : List (Nat × Nat × Nat × Nat)} (hl : Cond.methodLink own index y ∈ lw_tbl) (hst : Cond.static y ∈ lw_tbl) (hM : CW l DD y bytes maxL ret hh rm As σ res σ') (hcd : Cond.codeWith y bytes maxL ret hh ∈ lw_tbl) (hini : Cond.initialized y.cls ∈ lw_tbl) (hdd : y.cls ≠ "java/lang/invoke/MethodHandle" ∧ y.cls ≠ "java/lang/invoke/VarHandle" ∧ (parseMethodDescriptor y.desc).map (fun d => d.parameters.length) = some n) (hn : As.length = n) (hR : rm.frames + 1 ≤ R.frames ∧ 8 + (maxL + 11) + rm.locals ≤ R.locals) (hroom : (st.map tw_).sum ≤ 8) (hf : kc + rm.cells ≤ R.cells ∧ ks + rm.slots ≤ R.slots) (hd : decode cc pc = .ok (.invokestatic index, 3)) (kk : GP p l e R s m args below meth c nL A (W2 A DD σ' (bmp (hp_N σ') τ)) Q (kc + rm.cells) (ks + rm.slots) (pc + 3) (lv) (res.toList ++ st)) : GP p l e R s m args below meth c nL A (W2 A DD σ τ) Q kc ks (pc) (lv) (As.reverse ++ st) := by
  intro H locs ls h1 h2 h3
  have ht : ∀ w ∈ lw_tbl.filter goodWord, w.before args s = true := fun w hw => X.2.2.2.2.1 w (List.mem_filter.mp hw).1 (List.mem_filter.mp hw).2
  have hW : GoodIn (lw_tbl.filter goodWord) (wsW y bytes maxL ret hh) := by
    intro w hw
    rcases List.mem_cons.mp hw with rfl | hw
    · exact ⟨List.mem_filter.mpr ⟨hcd, rfl⟩, good_of_word rfl⟩
    · exact ⟨hw, good_of_word (List.mem_filter.mp hw).2⟩
  refine rp_run (res := res) (σ' := σ') (mc := rm.cells) (ms := rm.slots) (a := (As.map tv).toArray) (rest := st.map tv) X.2.2.2.2.2.2 h1 h2 (fun T hT X0 => ?_) fun H1 locs1 w1 w2 => ?_
  · have hK : Back l R p e below s args y 3 8 (PreOf R rm.cells rm.slots (Pre DD As σ)) (PostOf (Post DD σ res σ') rm.cells rm.slots (dm σ)) := va_backW (hh := hh) (bytes := bytes) (maxL := maxL) (ret := ret) hM Pre_blind rfl rfl hR.1 hR.2 (pay_in ht hW) List.mem_cons_self (fun a' U hU => word_at hU (good_of_word rfl) (X.2.2.2.2.1 _ hini rfl))
    obtain ⟨mk, methM, cM, hnamed, hmethM, -, -, -, -, -, -, hsigM⟩ := Cond.codeWith_spec (X.2.2.2.2.1 _ hcd rfl)
    have hstatic : methM.isStatic = true := Cond.static_spec hnamed hmethM (X.2.2.2.2.1 _ hst rfl)
    obtain ⟨kP, hkP, -⟩ := className_of_methodNamed hnamed
    have hinitP : kP.init = .initialized := Cond.initialized_spec (findClass_of_methodNamed hnamed) hkP (X.2.2.2.2.1 _ hini rfl)
    have hlen : (As.map tv).length = methM.sig.parameters.length := by
      have h2 := hdd.2.2
      rw [hsigM] at h2
      rw [List.length_map, hn]
      exact (Option.some.inj h2).symm
    obtain ⟨vm₁, X₁, hstep₁⟩ := X0.invokestatic X.1 X.2.2.2.1 (X.2.2.2.2.1 _ hl rfl) hnamed hmethM hstatic hkP hinitP ⟨hdd.1, hdd.2.1⟩ (g := F0 m pc ls ((As.reverse ++ st).map tv)) rfl (argsL := As.map tv) (rest := st.map tv) hlen (by show (List.map tv (As.reverse ++ st)) = _; rw [List.map_append, List.map_reverse]) (by rw [X.2.1]; exact hd)
    obtain ⟨v, ⟨U', l2, c2, s2⟩, X', ⟨g', mk', t, L, e1, e2, hq, q1, hL, q2, q3⟩, hsteps⟩ := hK m meth c ⟨T.setVm vm₁, locs, kc, ks⟩ (F0 m pc ls (st.map tv)) (.invokestatic index) mk (As.map tv).toArray X₁ rfl (by rw [X.2.2.1]; exact h3.1) (by rw [X.2.1]; exact hd) (by show 2 * 0 + _ ≤ 8; rw [tv_cats]; omega) (X₁.named hnamed) ⟨hf.1, hf.2, pre_in X h1.1 h2 (T.setVm vm₁) hT X₁.warmed⟩
    dsimp only [Pt.U, Pt.locs, Pt.cells, Pt.slots] at X' e1 e2 q1 q2 q3 hsteps
    subst q1; subst q2; subst q3
    exact ⟨v, _, t, U', L, hT, X', hL, e1, e2, hq, fun target h => hstep₁ _ fun acts => by rw [doInvoke_state]; exact hsteps.trans h⟩
  · rw [ret_stk]
    exact kk H1 locs1 ls w1 w2 h3
end RP
