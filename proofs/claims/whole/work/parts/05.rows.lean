/-! typed values on the stack and in the locals -/
abbrev TV : Type := Int32 ⊕ Int64 ⊕ Option Nat
abbrev tI (x : Int32) : TV := Sum.inl x
abbrev tL (x : Int64) : TV := Sum.inr (Sum.inl x)
abbrev tR (x : Option Nat) : TV := Sum.inr (Sum.inr x)
def tv (x : TV) : Value := match x with
  | .inl v => .int v
  | .inr (.inl v) => .long v
  | .inr (.inr r) => va_rf r
def tw_ (x : TV) : Nat := match x with
  | .inl _ => 1
  | .inr (.inl _) => 2
  | .inr (.inr _) => 1
theorem tv_cat (x : TV) : (tv x).category = tw_ x := by
  rcases x with x | x | x
  · rfl
  · rfl
  · cases x <;> rfl
theorem tv_cats (l : List TV) : ((l.map tv).map fun v => v.category).sum = (l.map tw_).sum := by
  induction l with
  | nil => rfl
  | cons a l ih => simp only [List.map_cons, List.sum_cons, ih, tv_cat]
def lvm (l : List (Nat × TV)) : List (Nat × Value) := l.map fun q => (q.1, tv q.2)
theorem lvm_at {l : List (Nat × TV)} {j i : Nat} {x : TV} (h : l[j]? = some (i, x)) : (lvm l)[j]? = some (i, tv x) := by simp [lvm, h]
theorem lv_mono {ls : Array Slot} {nL : Nat} {l l' : List (Nat × Value)} (h : lv_has ls nL l) (hs : ∀ q ∈ l', q ∈ l) : lv_has ls nL l' := ⟨h.1, h.2.1, fun q hq => h.2.2 q (hs q hq)⟩
def tv_pick (l : List (Nat × TV)) (ks : List Nat) : List (Nat × TV) := ks.filterMap (fun k => l[k]?)
theorem tv_pick_sub {l l' : List (Nat × TV)} {ks : List Nat} (h : tv_pick l ks = l') : ∀ q ∈ l', q ∈ l := by
  intro q hq
  rw [← h] at hq
  obtain ⟨k, -, hk⟩ := List.mem_filterMap.mp hq
  exact List.mem_of_getElem? hk
theorem lvm_sub {l l' : List (Nat × TV)} (h : ∀ q ∈ l', q ∈ l) : ∀ q ∈ lvm l', q ∈ lvm l := by
  intro q hq
  obtain ⟨r, hr, rfl⟩ := List.mem_map.mp hq
  exact List.mem_map.mpr ⟨r, h r hr, rfl⟩
/-- what is left of the locals when one word is stored at i -/
def lk1 (i : Nat) (q : Nat × TV) : Bool := !(q.1 == i) && !(q.1 + 1 == i && tw_ q.2 == 2)
def lk2 (i : Nat) (q : Nat × TV) : Bool := !(q.1 == i) && (!(q.1 == i + 1) && !(q.1 + 1 == i && tw_ q.2 == 2))
theorem lk1_in {i : Nat} {x : TV} {l l' : List (Nat × TV)} {ks : List Nat} (h : tv_pick ((i, x) :: l.filter (lk1 i)) ks = l') : ∀ q ∈ lvm l', q ∈ (i, tv x) :: (lvm l).filter (fun q => !(q.1 == i) && !(q.1 + 1 == i && q.2.category == 2)) := by
  intro q hq
  obtain ⟨r, hr, rfl⟩ := List.mem_map.mp hq
  rcases List.mem_cons.mp (tv_pick_sub h r hr) with rfl | h2
  · exact List.mem_cons_self
  · obtain ⟨h3, h4⟩ := List.mem_filter.mp h2
    refine List.mem_cons_of_mem _ (List.mem_filter.mpr ⟨List.mem_map.mpr ⟨r, h3, rfl⟩, ?_⟩)
    simp only [tv_cat]
    exact h4
theorem lk2_in {i : Nat} {x : TV} {l l' : List (Nat × TV)} {ks : List Nat} (h : tv_pick ((i, x) :: l.filter (lk2 i)) ks = l') : ∀ q ∈ lvm l', q ∈ (i, tv x) :: (lvm l).filter (fun q => !(q.1 == i) && (!(q.1 == i + 1) && !(q.1 + 1 == i && q.2.category == 2))) := by
  intro q hq
  obtain ⟨r, hr, rfl⟩ := List.mem_map.mp hq
  rcases List.mem_cons.mp (tv_pick_sub h r hr) with rfl | h2
  · exact List.mem_cons_self
  · obtain ⟨h3, h4⟩ := List.mem_filter.mp h2
    refine List.mem_cons_of_mem _ (List.mem_filter.mpr ⟨List.mem_map.mpr ⟨r, h3, rfl⟩, ?_⟩)
    simp only [tv_cat]
    exact h4
/-- what holds inside a method -/
def CX (p : Program) (s : State) (m : MethodId) (args : Array Value) (c : Code) (cc : ByteArray) (nL : Nat) (A : Nat → Prop) (DD : DT) (own : String) : Prop := p.tables.exec = Jvm.exec ∧ c.code = cc ∧ c.maxLocals = nL ∧ s.vm.findClass own = some m.cls ∧ TW args s ∧ KN DD A s ∧ ∀ q, s.heap.size ≤ q → A q
/-- the machine at pc, its locals lv, its stack st, its heap a world σ, comes to Q -/
def GG (p : Program) (l : Launch) (e : Env) (R : Room) (s : State) (m : MethodId) (args : Array Value) (below : List Frame) (meth : Method) (c : Code) (nL : Nat) (A : Nat → Prop) (DD : DT) (Q : State → Prop) (kc ks : Nat) (σ : Hp) (pc : Nat) (lv : List (Nat × TV)) (st : List TV) : Prop :=
  ∀ (H : Heap) (locs : List Loc) (ls : Array Slot), wld A DD σ H → va_S A s.heap H locs → lv_has ls nL (lvm lv) → W p l e R s m args below meth c H locs kc ks Q (F0 m pc ls (st.map tv))
def Pre (DD : DT) (As : List TV) (σ : Hp) : Array Value → State → Prop := va_Pc (As.map tv) (fun U => wld (dm σ) DD σ U.heap ∧ KN DD (dm σ) U)
def Post (DD : DT) (σ : Hp) (res : Option TV) (σ' : Hp) : Array Value → State → Outcome → State → Prop := fun _ st oc t => (oc = .returned (res.map tv) ∧ wld (dm σ) DD σ' t.heap) ∧ va_F (dm σ) st t
/-- a method's contract: at these arguments and this world it answers res and leaves the world σ' -/
def CT (l : Launch) (DD : DT) (y : MethodName) (cc : ByteArray) (n : Nat) (ret : Option FieldType) (rm : Room) (As : List TV) (σ : Hp) (res : Option TV) (σ' : Hp) : Prop := Met l y (wsM y cc n ret) rm (Pre DD As σ) (Post DD σ res σ') rm.cells rm.slots (dm σ)
theorem KN.same {DD : DT} {A : Nat → Prop} {s U : State} (h : KN DD A s) (hv : U.vm = s.vm) (hH : U.heap = s.heap) : KN DD A U := by
  obtain ⟨h1, h2, h3, h4, h5, h6, h7, h8, h9, h10⟩ := h
  have al : s.vm.Alike U.vm := by rw [hv]; exact Vm.Alike.refl _
  refine ⟨va_K.moved al h1, fun w hw => ?_, va_AO.moved al h3, va_AO.moved al h4, by rw [hH]; exact va_Z.moved al h5, by rw [hH]; exact va_T.moved al h6, by rw [hH]; exact h7.to al (fun _ _ _ => rfl) (fun _ h => h), by rw [hH]; exact h8.to al (fun _ _ _ => rfl) (fun _ h => h), fun w hw => ?_, h10.moved al⟩
  · have hw' := h2 w hw
    simp only [nests, List.mem_cons, List.not_mem_nil, or_false] at hw
    rcases hw with rfl | rfl | rfl | rfl <;> exact va_Nw.same rfl hv.symm hw'
  · have hw' := h9 w hw
    simp only [decls, List.mem_cons, List.not_mem_nil, or_false] at hw
    rcases hw with rfl | rfl | rfl <;> exact va_Nw.same rfl hv.symm hw'
theorem Pre_blind {DD : DT} {As : List TV} {σ : Hp} : FrameBlind (Pre DD As σ) := fun a U g mk q => ⟨q.1, q.2.1, q.2.2.same rfl rfl⟩
section RW
variable {p : Program} {l : Launch} {e : Env} {R : Room} {s : State} {m : MethodId} {args : Array Value} {below : List Frame} {meth : Method} {c : Code} {cc : ByteArray} {nL : Nat} {A : Nat → Prop} {DD : DT} {own : String} {Q : State → Prop} {kc ks pc : Nat} {σ : Hp} {lv : List (Nat × TV)} {st : List TV}

theorem r_iadd (X : CX p s m args c cc nL A DD own) {x y : Int32} (hd : decode cc pc = .ok (.iadd, 1))  (k : GG p l e R s m args below meth c nL A DD Q kc ks σ (pc + 1) (lv) (tI (x + y) :: st)) : GG p l e R s m args below meth c nL A DD Q kc ks σ (pc) (lv) (tI y :: tI x :: st) := fun H locs ls h1 h2 h3 => lv_iadd X.1 X.2.1 hd  (k H locs ls h1 h2 h3)
theorem r_isub (X : CX p s m args c cc nL A DD own) {x y : Int32} (hd : decode cc pc = .ok (.isub, 1))  (k : GG p l e R s m args below meth c nL A DD Q kc ks σ (pc + 1) (lv) (tI (x - y) :: st)) : GG p l e R s m args below meth c nL A DD Q kc ks σ (pc) (lv) (tI y :: tI x :: st) := fun H locs ls h1 h2 h3 => lv_isub X.1 X.2.1 hd  (k H locs ls h1 h2 h3)
theorem r_imul (X : CX p s m args c cc nL A DD own) {x y : Int32} (hd : decode cc pc = .ok (.imul, 1))  (k : GG p l e R s m args below meth c nL A DD Q kc ks σ (pc + 1) (lv) (tI (x * y) :: st)) : GG p l e R s m args below meth c nL A DD Q kc ks σ (pc) (lv) (tI y :: tI x :: st) := fun H locs ls h1 h2 h3 => lv_imul X.1 X.2.1 hd  (k H locs ls h1 h2 h3)
theorem r_iand (X : CX p s m args c cc nL A DD own) {x y : Int32} (hd : decode cc pc = .ok (.iand, 1))  (k : GG p l e R s m args below meth c nL A DD Q kc ks σ (pc + 1) (lv) (tI (x &&& y) :: st)) : GG p l e R s m args below meth c nL A DD Q kc ks σ (pc) (lv) (tI y :: tI x :: st) := fun H locs ls h1 h2 h3 => lv_iand X.1 X.2.1 hd  (k H locs ls h1 h2 h3)
theorem r_ixor (X : CX p s m args c cc nL A DD own) {x y : Int32} (hd : decode cc pc = .ok (.ixor, 1))  (k : GG p l e R s m args below meth c nL A DD Q kc ks σ (pc + 1) (lv) (tI (x ^^^ y) :: st)) : GG p l e R s m args below meth c nL A DD Q kc ks σ (pc) (lv) (tI y :: tI x :: st) := fun H locs ls h1 h2 h3 => lv_ixor X.1 X.2.1 hd  (k H locs ls h1 h2 h3)
theorem r_ishl (X : CX p s m args c cc nL A DD own) {x y : Int32} (hd : decode cc pc = .ok (.ishl, 1))  (k : GG p l e R s m args below meth c nL A DD Q kc ks σ (pc + 1) (lv) (tI (x <<< (y &&& 31)) :: st)) : GG p l e R s m args below meth c nL A DD Q kc ks σ (pc) (lv) (tI y :: tI x :: st) := fun H locs ls h1 h2 h3 => lv_ishl X.1 X.2.1 hd  (k H locs ls h1 h2 h3)
theorem r_idiv (X : CX p s m args c cc nL A DD own) {x y : Int32} (hd : decode cc pc = .ok (.idiv, 1)) (hne : ¬ y = 0) (k : GG p l e R s m args below meth c nL A DD Q kc ks σ (pc + 1) (lv) (tI (x / y) :: st)) : GG p l e R s m args below meth c nL A DD Q kc ks σ (pc) (lv) (tI y :: tI x :: st) := fun H locs ls h1 h2 h3 => lv_idiv X.1 X.2.1 hd hne (k H locs ls h1 h2 h3)
theorem r_irem (X : CX p s m args c cc nL A DD own) {x y : Int32} (hd : decode cc pc = .ok (.irem, 1)) (hne : ¬ y = 0) (k : GG p l e R s m args below meth c nL A DD Q kc ks σ (pc + 1) (lv) (tI (x - x / y * y) :: st)) : GG p l e R s m args below meth c nL A DD Q kc ks σ (pc) (lv) (tI y :: tI x :: st) := fun H locs ls h1 h2 h3 => lv_irem X.1 X.2.1 hd hne (k H locs ls h1 h2 h3)
theorem r_iushr (X : CX p s m args c cc nL A DD own) {x y : Int32} (hd : decode cc pc = .ok (.iushr, 1))  (k : GG p l e R s m args below meth c nL A DD Q kc ks σ (pc + 1) (lv) (tI (iushr_ x y) :: st)) : GG p l e R s m args below meth c nL A DD Q kc ks σ (pc) (lv) (tI y :: tI x :: st) := fun H locs ls h1 h2 h3 => lv_iushr X.1 X.2.1 hd rfl (k H locs ls h1 h2 h3)
theorem r_ineg (X : CX p s m args c cc nL A DD own) {x : Int32} (hd : decode cc pc = .ok (.ineg, 1))  (k : GG p l e R s m args below meth c nL A DD Q kc ks σ (pc + 1) (lv) (tI (-x) :: st)) : GG p l e R s m args below meth c nL A DD Q kc ks σ (pc) (lv) (tI x :: st) := fun H locs ls h1 h2 h3 => lv_ineg X.1 X.2.1 hd  (k H locs ls h1 h2 h3)
theorem r_ladd (X : CX p s m args c cc nL A DD own) {x y : Int64} (hd : decode cc pc = .ok (.ladd, 1))  (k : GG p l e R s m args below meth c nL A DD Q kc ks σ (pc + 1) (lv) (tL (x + y) :: st)) : GG p l e R s m args below meth c nL A DD Q kc ks σ (pc) (lv) (tL y :: tL x :: st) := fun H locs ls h1 h2 h3 => lv_ladd X.1 X.2.1 hd  (k H locs ls h1 h2 h3)
theorem r_lmul (X : CX p s m args c cc nL A DD own) {x y : Int64} (hd : decode cc pc = .ok (.lmul, 1))  (k : GG p l e R s m args below meth c nL A DD Q kc ks σ (pc + 1) (lv) (tL (x * y) :: st)) : GG p l e R s m args below meth c nL A DD Q kc ks σ (pc) (lv) (tL y :: tL x :: st) := fun H locs ls h1 h2 h3 => lv_lmul X.1 X.2.1 hd  (k H locs ls h1 h2 h3)
theorem r_ldiv (X : CX p s m args c cc nL A DD own) {x y : Int64} (hd : decode cc pc = .ok (.ldiv, 1)) (hne : ¬ y = 0) (k : GG p l e R s m args below meth c nL A DD Q kc ks σ (pc + 1) (lv) (tL (x / y) :: st)) : GG p l e R s m args below meth c nL A DD Q kc ks σ (pc) (lv) (tL y :: tL x :: st) := fun H locs ls h1 h2 h3 => lv_ldiv X.1 X.2.1 hd hne (k H locs ls h1 h2 h3)
theorem r_i2l (X : CX p s m args c cc nL A DD own) {x : Int32} (hd : decode cc pc = .ok (.i2l, 1))  (k : GG p l e R s m args below meth c nL A DD Q kc ks σ (pc + 1) (lv) (tL x.toInt64 :: st)) : GG p l e R s m args below meth c nL A DD Q kc ks σ (pc) (lv) (tI x :: st) := fun H locs ls h1 h2 h3 => lv_i2l X.1 X.2.1 hd rfl (k H locs ls h1 h2 h3)
theorem r_l2i (X : CX p s m args c cc nL A DD own) {x : Int64} (hd : decode cc pc = .ok (.l2i, 1))  (k : GG p l e R s m args below meth c nL A DD Q kc ks σ (pc + 1) (lv) (tI x.toInt32 :: st)) : GG p l e R s m args below meth c nL A DD Q kc ks σ (pc) (lv) (tL x :: st) := fun H locs ls h1 h2 h3 => lv_l2i X.1 X.2.1 hd rfl (k H locs ls h1 h2 h3)
theorem r_lcmp (X : CX p s m args c cc nL A DD own) {x y : Int64} (hd : decode cc pc = .ok (.lcmp, 1))  (k : GG p l e R s m args below meth c nL A DD Q kc ks σ (pc + 1) (lv) (tI (lg_cmp x y) :: st)) : GG p l e R s m args below meth c nL A DD Q kc ks σ (pc) (lv) (tL y :: tL x :: st) := fun H locs ls h1 h2 h3 => W.lcmp X.1 X.2.1 hd  (k H locs ls h1 h2 h3)
theorem r_iconst (X : CX p s m args c cc nL A DD own) {n : Int} {v : Int32} (hd : decode cc pc = .ok (.iconst n, 1)) (hv : Int32.ofInt n = v) (k : GG p l e R s m args below meth c nL A DD Q kc ks σ (pc + 1) (lv) (tI v :: st)) : GG p l e R s m args below meth c nL A DD Q kc ks σ (pc) (lv) (st) := fun H locs ls h1 h2 h3 => lv_iconst X.1 X.2.1 hd hv (k H locs ls h1 h2 h3)
theorem r_bipush (X : CX p s m args c cc nL A DD own) {n : Int} {v : Int32} (hd : decode cc pc = .ok (.bipush n, 2)) (hv : (Int8.ofInt n).toInt32 = v) (k : GG p l e R s m args below meth c nL A DD Q kc ks σ (pc + 2) (lv) (tI v :: st)) : GG p l e R s m args below meth c nL A DD Q kc ks σ (pc) (lv) (st) := fun H locs ls h1 h2 h3 => lv_bipush X.1 X.2.1 hd hv (k H locs ls h1 h2 h3)
theorem r_sipush (X : CX p s m args c cc nL A DD own) {n : Int} {v : Int32} (hd : decode cc pc = .ok (.sipush n, 3)) (hv : (Int16.ofInt n).toInt32 = v) (k : GG p l e R s m args below meth c nL A DD Q kc ks σ (pc + 3) (lv) (tI v :: st)) : GG p l e R s m args below meth c nL A DD Q kc ks σ (pc) (lv) (st) := fun H locs ls h1 h2 h3 => lv_sipush X.1 X.2.1 hd hv (k H locs ls h1 h2 h3)
theorem r_lconst (X : CX p s m args c cc nL A DD own) {n : Fin 2} {v : Int64} (hd : decode cc pc = .ok (.lconst n, 1)) (hv : Int64.ofNat (n : Nat) = v) (k : GG p l e R s m args below meth c nL A DD Q kc ks σ (pc + 1) (lv) (tL v :: st)) : GG p l e R s m args below meth c nL A DD Q kc ks σ (pc) (lv) (st) := fun H locs ls h1 h2 h3 => lv_lconst X.1 X.2.1 hd hv (k H locs ls h1 h2 h3)
theorem r_null (X : CX p s m args c cc nL A DD own)  (hd : decode cc pc = .ok (.aconst_null, 1))  (k : GG p l e R s m args below meth c nL A DD Q kc ks σ (pc + 1) (lv) (tR none :: st)) : GG p l e R s m args below meth c nL A DD Q kc ks σ (pc) (lv) (st) := fun H locs ls h1 h2 h3 => lv_null X.1 X.2.1 hd  (k H locs ls h1 h2 h3)
theorem r_dup (X : CX p s m args c cc nL A DD own) {x : TV} (hd : decode cc pc = .ok (.dup, 1)) (hx : tw_ x = 1) (k : GG p l e R s m args below meth c nL A DD Q kc ks σ (pc + 1) (lv) (x :: x :: st)) : GG p l e R s m args below meth c nL A DD Q kc ks σ (pc) (lv) (x :: st) := fun H locs ls h1 h2 h3 => lv_dup X.1 X.2.1 hd (by rw [tv_cat]; exact hx) (k H locs ls h1 h2 h3)
theorem r_pop (X : CX p s m args c cc nL A DD own) {x : TV} (hd : decode cc pc = .ok (.pop, 1)) (hx : tw_ x = 1) (k : GG p l e R s m args below meth c nL A DD Q kc ks σ (pc + 1) (lv) (st)) : GG p l e R s m args below meth c nL A DD Q kc ks σ (pc) (lv) (x :: st) := fun H locs ls h1 h2 h3 => lv_pop X.1 X.2.1 hd (by rw [tv_cat]; exact hx) (k H locs ls h1 h2 h3)
theorem r_dup2 (X : CX p s m args c cc nL A DD own) {x y : TV} (hd : decode cc pc = .ok (.dup2, 1)) (hx : tw_ x = 1) (hy : tw_ y = 1) (k : GG p l e R s m args below meth c nL A DD Q kc ks σ (pc + 1) (lv) (x :: y :: x :: y :: st)) : GG p l e R s m args below meth c nL A DD Q kc ks σ (pc) (lv) (x :: y :: st) := fun H locs ls h1 h2 h3 => lv_dup2_11 X.1 X.2.1 hd (by rw [tv_cat]; exact hx) (by rw [tv_cat]; exact hy) (k H locs ls h1 h2 h3)
theorem r_ldc (X : CX p s m args c cc nL A DD own) {index : Nat} {v : Int32} (hd : decode cc pc = .ok (.ldc index, 2)) (hw : Cond.constant own index v ∈ lw_tbl) (k : GG p l e R s m args below meth c nL A DD Q kc ks σ (pc + 2) (lv) (tI v :: st)) : GG p l e R s m args below meth c nL A DD Q kc ks σ (pc) (lv) (st) := fun H locs ls h1 h2 h3 => lv_ldc X.1 X.2.1 X.2.2.2.1 (X.2.2.2.2.1 _ hw rfl) hd (k H locs ls h1 h2 h3)
theorem r_ldc2 (X : CX p s m args c cc nL A DD own) {index : Nat} {v : Int64} (hd : decode cc pc = .ok (.ldc2_w index, 3)) (hw : Cond.constantLong own index v ∈ lw_tbl) (k : GG p l e R s m args below meth c nL A DD Q kc ks σ (pc + 3) (lv) (tL v :: st)) : GG p l e R s m args below meth c nL A DD Q kc ks σ (pc) (lv) (st) := fun H locs ls h1 h2 h3 => lv_ldc2 X.1 X.2.1 X.2.2.2.1 (X.2.2.2.2.1 _ hw rfl) hd (k H locs ls h1 h2 h3)
theorem r_ldcw (X : CX p s m args c cc nL A DD own) {index : Nat} {v : Int32} (hd : decode cc pc = .ok (.ldc_w index, 3)) (hw : Cond.constant own index v ∈ lw_tbl) (k : GG p l e R s m args below meth c nL A DD Q kc ks σ (pc + 3) (lv) (tI v :: st)) : GG p l e R s m args below meth c nL A DD Q kc ks σ (pc) (lv) (st) := fun H locs ls h1 h2 h3 => lv_ldcw X.1 X.2.1 X.2.2.2.1 (X.2.2.2.2.1 _ hw rfl) hd (k H locs ls h1 h2 h3)
theorem r_iload_n (X : CX p s m args c cc nL A DD own) {f : Fin 4} {i : Nat} {x : Int32} (hd : decode cc pc = .ok (.iload_n f, 1)) (hi : (f : Nat) = i) (j : Nat) (hj : lv[j]? = some (i, tI x)) (k : GG p l e R s m args below meth c nL A DD Q kc ks σ (pc + 1) (lv) (tI x :: st)) : GG p l e R s m args below meth c nL A DD Q kc ks σ (pc) (lv) (st) := fun H locs ls h1 h2 h3 => lv_iload_n X.1 X.2.1 hd hi (lv_at h3 j (lvm_at hj)) (k H locs ls h1 h2 h3)
theorem r_iload (X : CX p s m args c cc nL A DD own) {i : Nat} {x : Int32} (hd : decode cc pc = .ok (.iload i, 2)) (j : Nat) (hj : lv[j]? = some (i, tI x)) (k : GG p l e R s m args below meth c nL A DD Q kc ks σ (pc + 2) (lv) (tI x :: st)) : GG p l e R s m args below meth c nL A DD Q kc ks σ (pc) (lv) (st) := fun H locs ls h1 h2 h3 => lv_iload X.1 X.2.1 hd (lv_at h3 j (lvm_at hj)) (k H locs ls h1 h2 h3)
theorem r_lload_n (X : CX p s m args c cc nL A DD own) {f : Fin 4} {i : Nat} {x : Int64} (hd : decode cc pc = .ok (.lload_n f, 1)) (hi : (f : Nat) = i) (j : Nat) (hj : lv[j]? = some (i, tL x)) (k : GG p l e R s m args below meth c nL A DD Q kc ks σ (pc + 1) (lv) (tL x :: st)) : GG p l e R s m args below meth c nL A DD Q kc ks σ (pc) (lv) (st) := fun H locs ls h1 h2 h3 => lv_lload_n X.1 X.2.1 hd hi (lv_at h3 j (lvm_at hj)) (k H locs ls h1 h2 h3)
theorem r_lload (X : CX p s m args c cc nL A DD own) {i : Nat} {x : Int64} (hd : decode cc pc = .ok (.lload i, 2)) (j : Nat) (hj : lv[j]? = some (i, tL x)) (k : GG p l e R s m args below meth c nL A DD Q kc ks σ (pc + 2) (lv) (tL x :: st)) : GG p l e R s m args below meth c nL A DD Q kc ks σ (pc) (lv) (st) := fun H locs ls h1 h2 h3 => lv_lload X.1 X.2.1 hd (lv_at h3 j (lvm_at hj)) (k H locs ls h1 h2 h3)
theorem r_aload_n (X : CX p s m args c cc nL A DD own) {f : Fin 4} {i : Nat} {x : Option Nat} (hd : decode cc pc = .ok (.aload_n f, 1)) (hi : (f : Nat) = i) (j : Nat) (hj : lv[j]? = some (i, tR x)) (k : GG p l e R s m args below meth c nL A DD Q kc ks σ (pc + 1) (lv) (tR x :: st)) : GG p l e R s m args below meth c nL A DD Q kc ks σ (pc) (lv) (st) := by
  intro H locs ls h1 h2 h3
  cases x with
  | none => exact lv_aload_nN X.1 X.2.1 hd hi (lv_at h3 j (lvm_at hj)) (k H locs ls h1 h2 h3)
  | some a => exact lv_aload_n X.1 X.2.1 hd hi (lv_at h3 j (lvm_at hj)) (k H locs ls h1 h2 h3)
theorem r_aload (X : CX p s m args c cc nL A DD own) {i : Nat} {x : Option Nat} (hd : decode cc pc = .ok (.aload i, 2)) (j : Nat) (hj : lv[j]? = some (i, tR x)) (k : GG p l e R s m args below meth c nL A DD Q kc ks σ (pc + 2) (lv) (tR x :: st)) : GG p l e R s m args below meth c nL A DD Q kc ks σ (pc) (lv) (st) := by
  intro H locs ls h1 h2 h3
  cases x with
  | none => exact lv_aloadN X.1 X.2.1 hd (lv_at h3 j (lvm_at hj)) (k H locs ls h1 h2 h3)
  | some a => exact lv_aload X.1 X.2.1 hd (lv_at h3 j (lvm_at hj)) (k H locs ls h1 h2 h3)
theorem r_istore_n (X : CX p s m args c cc nL A DD own) (js : List Nat) {lv' : List (Nat × TV)} {f : Fin 4} {i : Nat} {x : Int32} (hd : decode cc pc = .ok (.istore_n f, 1)) (hi : (f : Nat) = i) (hn : i < nL) (hl : tv_pick ((i, tI x) :: lv.filter (lk1 i)) js = lv') (k : GG p l e R s m args below meth c nL A DD Q kc ks σ (pc + 1) (lv') (st)) : GG p l e R s m args below meth c nL A DD Q kc ks σ (pc) (lv) (tI x :: st) := fun H locs ls h1 h2 h3 => lv_istore_n X.1 X.2.1 hd hi h3 hn rfl (fun ls' h => k H locs ls' h1 h2 (lv_mono h (lk1_in hl)))
theorem r_istore (X : CX p s m args c cc nL A DD own) (js : List Nat) {lv' : List (Nat × TV)} {i : Nat} {x : Int32} (hd : decode cc pc = .ok (.istore i, 2)) (hn : i < nL) (hl : tv_pick ((i, tI x) :: lv.filter (lk1 i)) js = lv') (k : GG p l e R s m args below meth c nL A DD Q kc ks σ (pc + 2) (lv') (st)) : GG p l e R s m args below meth c nL A DD Q kc ks σ (pc) (lv) (tI x :: st) := fun H locs ls h1 h2 h3 => lv_istore X.1 X.2.1 hd h3 hn rfl (fun ls' h => k H locs ls' h1 h2 (lv_mono h (lk1_in hl)))
theorem r_lstore_n (X : CX p s m args c cc nL A DD own) (js : List Nat) {lv' : List (Nat × TV)} {f : Fin 4} {i : Nat} {x : Int64} (hd : decode cc pc = .ok (.lstore_n f, 1)) (hi : (f : Nat) = i) (hn : i + 1 < nL) (hl : tv_pick ((i, tL x) :: lv.filter (lk2 i)) js = lv') (k : GG p l e R s m args below meth c nL A DD Q kc ks σ (pc + 1) (lv') (st)) : GG p l e R s m args below meth c nL A DD Q kc ks σ (pc) (lv) (tL x :: st) := fun H locs ls h1 h2 h3 => lv_lstore_n X.1 X.2.1 hd hi h3 hn rfl (fun ls' h => k H locs ls' h1 h2 (lv_mono h (lk2_in hl)))
theorem r_lstore (X : CX p s m args c cc nL A DD own) (js : List Nat) {lv' : List (Nat × TV)} {i : Nat} {x : Int64} (hd : decode cc pc = .ok (.lstore i, 2)) (hn : i + 1 < nL) (hl : tv_pick ((i, tL x) :: lv.filter (lk2 i)) js = lv') (k : GG p l e R s m args below meth c nL A DD Q kc ks σ (pc + 2) (lv') (st)) : GG p l e R s m args below meth c nL A DD Q kc ks σ (pc) (lv) (tL x :: st) := fun H locs ls h1 h2 h3 => lv_lstore X.1 X.2.1 hd h3 hn rfl (fun ls' h => k H locs ls' h1 h2 (lv_mono h (lk2_in hl)))
theorem r_astore_n (X : CX p s m args c cc nL A DD own) (js : List Nat) {lv' : List (Nat × TV)} {f : Fin 4} {i : Nat} {x : Option Nat} (hd : decode cc pc = .ok (.astore_n f, 1)) (hi : (f : Nat) = i) (hn : i < nL) (hl : tv_pick ((i, tR x) :: lv.filter (lk1 i)) js = lv') (k : GG p l e R s m args below meth c nL A DD Q kc ks σ (pc + 1) (lv') (st)) : GG p l e R s m args below meth c nL A DD Q kc ks σ (pc) (lv) (tR x :: st) := by
  intro H locs ls h1 h2 h3
  cases x with
  | none => exact lv_astore_nN X.1 X.2.1 hd hi h3 hn rfl (fun ls' h => k H locs ls' h1 h2 (lv_mono h (lk1_in hl)))
  | some a => exact lv_astore_n X.1 X.2.1 hd hi h3 hn rfl (fun ls' h => k H locs ls' h1 h2 (lv_mono h (lk1_in hl)))
theorem r_astore (X : CX p s m args c cc nL A DD own) (js : List Nat) {lv' : List (Nat × TV)} {i : Nat} {x : Option Nat} (hd : decode cc pc = .ok (.astore i, 2)) (hn : i < nL) (hl : tv_pick ((i, tR x) :: lv.filter (lk1 i)) js = lv') (k : GG p l e R s m args below meth c nL A DD Q kc ks σ (pc + 2) (lv') (st)) : GG p l e R s m args below meth c nL A DD Q kc ks σ (pc) (lv) (tR x :: st) := by
  intro H locs ls h1 h2 h3
  cases x with
  | none => exact lv_astoreN X.1 X.2.1 hd h3 hn rfl (fun ls' h => k H locs ls' h1 h2 (lv_mono h (lk1_in hl)))
  | some a => exact lv_astore X.1 X.2.1 hd h3 hn rfl (fun ls' h => k H locs ls' h1 h2 (lv_mono h (lk1_in hl)))
theorem r_iinc (X : CX p s m args c cc nL A DD own) (js : List Nat) {lv' : List (Nat × TV)} {i j : Nat} {n : Int} {x v : Int32} (hd : decode cc pc = .ok (.iinc i n, 3)) (hj : lv[j]? = some (i, tI x)) (hv : x + Int32.ofInt n = v) (hn : i < nL) (hl : tv_pick ((i, tI v) :: lv.filter (lk1 i)) js = lv') (k : GG p l e R s m args below meth c nL A DD Q kc ks σ (pc + 3) (lv') (st)) : GG p l e R s m args below meth c nL A DD Q kc ks σ (pc) (lv) (st) := fun H locs ls h1 h2 h3 => lv_iinc X.1 X.2.1 hd h3 (k := j) (lvm_at hj) hv hn rfl (fun ls' h => k H locs ls' h1 h2 (lv_mono h (lk1_in hl)))
theorem r_goto (X : CX p s m args c cc nL A DD own) {off : Int} {tgt : Nat} (hd : decode cc pc = .ok (.goto off, 3)) (ht : (pc : Int) + off = (tgt : Int)) (k : GG p l e R s m args below meth c nL A DD Q kc ks σ (tgt) (lv) (st)) : GG p l e R s m args below meth c nL A DD Q kc ks σ (pc) (lv) (st) := fun H locs ls h1 h2 h3 => lv_goto X.1 X.2.1 hd ht (k H locs ls h1 h2 h3)
theorem r_if_eq (X : CX p s m args c cc nL A DD own) {x : Int32} {off : Int} {tgt : Nat} (hd : decode cc pc = .ok (.ifCond .eq off, 3)) (ht : (pc : Int) + off = (tgt : Int)) (kt : x = 0 → GG p l e R s m args below meth c nL A DD Q kc ks σ (tgt) (lv) (st)) (kf : ¬ x = 0 → GG p l e R s m args below meth c nL A DD Q kc ks σ (pc + 3) (lv) (st)) : GG p l e R s m args below meth c nL A DD Q kc ks σ (pc) (lv) (tI x :: st) := fun H locs ls h1 h2 h3 => lv_if_eq X.1 X.2.1 hd ht (fun q => kt q H locs ls h1 h2 h3) (fun q => kf q H locs ls h1 h2 h3)
theorem r_if_ne (X : CX p s m args c cc nL A DD own) {x : Int32} {off : Int} {tgt : Nat} (hd : decode cc pc = .ok (.ifCond .ne off, 3)) (ht : (pc : Int) + off = (tgt : Int)) (kt : ¬ x = 0 → GG p l e R s m args below meth c nL A DD Q kc ks σ (tgt) (lv) (st)) (kf : x = 0 → GG p l e R s m args below meth c nL A DD Q kc ks σ (pc + 3) (lv) (st)) : GG p l e R s m args below meth c nL A DD Q kc ks σ (pc) (lv) (tI x :: st) := fun H locs ls h1 h2 h3 => lv_if_ne X.1 X.2.1 hd ht (fun q => kt q H locs ls h1 h2 h3) (fun q => kf q H locs ls h1 h2 h3)
theorem r_if_lt (X : CX p s m args c cc nL A DD own) {x : Int32} {off : Int} {tgt : Nat} (hd : decode cc pc = .ok (.ifCond .lt off, 3)) (ht : (pc : Int) + off = (tgt : Int)) (kt : x < 0 → GG p l e R s m args below meth c nL A DD Q kc ks σ (tgt) (lv) (st)) (kf : ¬ x < 0 → GG p l e R s m args below meth c nL A DD Q kc ks σ (pc + 3) (lv) (st)) : GG p l e R s m args below meth c nL A DD Q kc ks σ (pc) (lv) (tI x :: st) := fun H locs ls h1 h2 h3 => lv_if_lt X.1 X.2.1 hd ht (fun q => kt q H locs ls h1 h2 h3) (fun q => kf q H locs ls h1 h2 h3)
theorem r_if_ge (X : CX p s m args c cc nL A DD own) {x : Int32} {off : Int} {tgt : Nat} (hd : decode cc pc = .ok (.ifCond .ge off, 3)) (ht : (pc : Int) + off = (tgt : Int)) (kt : 0 ≤ x → GG p l e R s m args below meth c nL A DD Q kc ks σ (tgt) (lv) (st)) (kf : ¬ 0 ≤ x → GG p l e R s m args below meth c nL A DD Q kc ks σ (pc + 3) (lv) (st)) : GG p l e R s m args below meth c nL A DD Q kc ks σ (pc) (lv) (tI x :: st) := fun H locs ls h1 h2 h3 => lv_if_ge X.1 X.2.1 hd ht (fun q => kt q H locs ls h1 h2 h3) (fun q => kf q H locs ls h1 h2 h3)
theorem r_if_gt (X : CX p s m args c cc nL A DD own) {x : Int32} {off : Int} {tgt : Nat} (hd : decode cc pc = .ok (.ifCond .gt off, 3)) (ht : (pc : Int) + off = (tgt : Int)) (kt : 0 < x → GG p l e R s m args below meth c nL A DD Q kc ks σ (tgt) (lv) (st)) (kf : ¬ 0 < x → GG p l e R s m args below meth c nL A DD Q kc ks σ (pc + 3) (lv) (st)) : GG p l e R s m args below meth c nL A DD Q kc ks σ (pc) (lv) (tI x :: st) := fun H locs ls h1 h2 h3 => lv_if_gt X.1 X.2.1 hd ht (fun q => kt q H locs ls h1 h2 h3) (fun q => kf q H locs ls h1 h2 h3)
theorem r_if_le (X : CX p s m args c cc nL A DD own) {x : Int32} {off : Int} {tgt : Nat} (hd : decode cc pc = .ok (.ifCond .le off, 3)) (ht : (pc : Int) + off = (tgt : Int)) (kt : x ≤ 0 → GG p l e R s m args below meth c nL A DD Q kc ks σ (tgt) (lv) (st)) (kf : ¬ x ≤ 0 → GG p l e R s m args below meth c nL A DD Q kc ks σ (pc + 3) (lv) (st)) : GG p l e R s m args below meth c nL A DD Q kc ks σ (pc) (lv) (tI x :: st) := fun H locs ls h1 h2 h3 => lv_if_le X.1 X.2.1 hd ht (fun q => kt q H locs ls h1 h2 h3) (fun q => kf q H locs ls h1 h2 h3)
theorem r_icmp_eq (X : CX p s m args c cc nL A DD own) {x y : Int32} {off : Int} {tgt : Nat} (hd : decode cc pc = .ok (.if_icmp .eq off, 3)) (ht : (pc : Int) + off = (tgt : Int)) (kt : x = y → GG p l e R s m args below meth c nL A DD Q kc ks σ (tgt) (lv) (st)) (kf : ¬ x = y → GG p l e R s m args below meth c nL A DD Q kc ks σ (pc + 3) (lv) (st)) : GG p l e R s m args below meth c nL A DD Q kc ks σ (pc) (lv) (tI y :: tI x :: st) := fun H locs ls h1 h2 h3 => lv_icmp_eq X.1 X.2.1 hd ht (fun q => kt q H locs ls h1 h2 h3) (fun q => kf q H locs ls h1 h2 h3)
theorem r_icmp_ne (X : CX p s m args c cc nL A DD own) {x y : Int32} {off : Int} {tgt : Nat} (hd : decode cc pc = .ok (.if_icmp .ne off, 3)) (ht : (pc : Int) + off = (tgt : Int)) (kt : ¬ x = y → GG p l e R s m args below meth c nL A DD Q kc ks σ (tgt) (lv) (st)) (kf : x = y → GG p l e R s m args below meth c nL A DD Q kc ks σ (pc + 3) (lv) (st)) : GG p l e R s m args below meth c nL A DD Q kc ks σ (pc) (lv) (tI y :: tI x :: st) := fun H locs ls h1 h2 h3 => lv_icmp_ne X.1 X.2.1 hd ht (fun q => kt q H locs ls h1 h2 h3) (fun q => kf q H locs ls h1 h2 h3)
theorem r_icmp_lt (X : CX p s m args c cc nL A DD own) {x y : Int32} {off : Int} {tgt : Nat} (hd : decode cc pc = .ok (.if_icmp .lt off, 3)) (ht : (pc : Int) + off = (tgt : Int)) (kt : x < y → GG p l e R s m args below meth c nL A DD Q kc ks σ (tgt) (lv) (st)) (kf : ¬ x < y → GG p l e R s m args below meth c nL A DD Q kc ks σ (pc + 3) (lv) (st)) : GG p l e R s m args below meth c nL A DD Q kc ks σ (pc) (lv) (tI y :: tI x :: st) := fun H locs ls h1 h2 h3 => lv_icmp_lt X.1 X.2.1 hd ht (fun q => kt q H locs ls h1 h2 h3) (fun q => kf q H locs ls h1 h2 h3)
theorem r_icmp_ge (X : CX p s m args c cc nL A DD own) {x y : Int32} {off : Int} {tgt : Nat} (hd : decode cc pc = .ok (.if_icmp .ge off, 3)) (ht : (pc : Int) + off = (tgt : Int)) (kt : y ≤ x → GG p l e R s m args below meth c nL A DD Q kc ks σ (tgt) (lv) (st)) (kf : ¬ y ≤ x → GG p l e R s m args below meth c nL A DD Q kc ks σ (pc + 3) (lv) (st)) : GG p l e R s m args below meth c nL A DD Q kc ks σ (pc) (lv) (tI y :: tI x :: st) := fun H locs ls h1 h2 h3 => lv_icmp_ge X.1 X.2.1 hd ht (fun q => kt q H locs ls h1 h2 h3) (fun q => kf q H locs ls h1 h2 h3)
theorem r_icmp_gt (X : CX p s m args c cc nL A DD own) {x y : Int32} {off : Int} {tgt : Nat} (hd : decode cc pc = .ok (.if_icmp .gt off, 3)) (ht : (pc : Int) + off = (tgt : Int)) (kt : y < x → GG p l e R s m args below meth c nL A DD Q kc ks σ (tgt) (lv) (st)) (kf : ¬ y < x → GG p l e R s m args below meth c nL A DD Q kc ks σ (pc + 3) (lv) (st)) : GG p l e R s m args below meth c nL A DD Q kc ks σ (pc) (lv) (tI y :: tI x :: st) := fun H locs ls h1 h2 h3 => lv_icmp_gt X.1 X.2.1 hd ht (fun q => kt q H locs ls h1 h2 h3) (fun q => kf q H locs ls h1 h2 h3)
theorem r_icmp_le (X : CX p s m args c cc nL A DD own) {x y : Int32} {off : Int} {tgt : Nat} (hd : decode cc pc = .ok (.if_icmp .le off, 3)) (ht : (pc : Int) + off = (tgt : Int)) (kt : x ≤ y → GG p l e R s m args below meth c nL A DD Q kc ks σ (tgt) (lv) (st)) (kf : ¬ x ≤ y → GG p l e R s m args below meth c nL A DD Q kc ks σ (pc + 3) (lv) (st)) : GG p l e R s m args below meth c nL A DD Q kc ks σ (pc) (lv) (tI y :: tI x :: st) := fun H locs ls h1 h2 h3 => lv_icmp_le X.1 X.2.1 hd ht (fun q => kt q H locs ls h1 h2 h3) (fun q => kf q H locs ls h1 h2 h3)
theorem r_acmp_eq (X : CX p s m args c cc nL A DD own) {x y : Option Nat} {off : Int} {tgt : Nat} (hd : decode cc pc = .ok (.if_acmp .eq off, 3)) (ht : (pc : Int) + off = (tgt : Int)) (kt : x = y → GG p l e R s m args below meth c nL A DD Q kc ks σ (tgt) (lv) (st)) (kf : ¬ x = y → GG p l e R s m args below meth c nL A DD Q kc ks σ (pc + 3) (lv) (st)) : GG p l e R s m args below meth c nL A DD Q kc ks σ (pc) (lv) (tR y :: tR x :: st) := fun H locs ls h1 h2 h3 => lv_acmp_eq X.1 X.2.1 hd ht (fun q => kt q H locs ls h1 h2 h3) (fun q => kf q H locs ls h1 h2 h3)
theorem r_acmp_ne (X : CX p s m args c cc nL A DD own) {x y : Option Nat} {off : Int} {tgt : Nat} (hd : decode cc pc = .ok (.if_acmp .ne off, 3)) (ht : (pc : Int) + off = (tgt : Int)) (kt : ¬ x = y → GG p l e R s m args below meth c nL A DD Q kc ks σ (tgt) (lv) (st)) (kf : x = y → GG p l e R s m args below meth c nL A DD Q kc ks σ (pc + 3) (lv) (st)) : GG p l e R s m args below meth c nL A DD Q kc ks σ (pc) (lv) (tR y :: tR x :: st) := fun H locs ls h1 h2 h3 => lv_acmp_ne X.1 X.2.1 hd ht (fun q => kt q H locs ls h1 h2 h3) (fun q => kf q H locs ls h1 h2 h3)
theorem r_ifnull (X : CX p s m args c cc nL A DD own) {x : Option Nat} {off : Int} {tgt : Nat} (hd : decode cc pc = .ok (.ifnull off, 3)) (ht : (pc : Int) + off = (tgt : Int)) (kt : x = none → GG p l e R s m args below meth c nL A DD Q kc ks σ (tgt) (lv) (st)) (kf : ¬ x = none → GG p l e R s m args below meth c nL A DD Q kc ks σ (pc + 3) (lv) (st)) : GG p l e R s m args below meth c nL A DD Q kc ks σ (pc) (lv) (tR x :: st) := by
  intro H locs ls h1 h2 h3
  cases x with
  | none => exact lv_ifnullN X.1 X.2.1 hd ht (kt rfl H locs ls h1 h2 h3)
  | some a => exact lv_ifnull X.1 X.2.1 hd (kf (fun z => by cases z) H locs ls h1 h2 h3)
theorem r_ifnonnull (X : CX p s m args c cc nL A DD own) {x : Option Nat} {off : Int} {tgt : Nat} (hd : decode cc pc = .ok (.ifnonnull off, 3)) (ht : (pc : Int) + off = (tgt : Int)) (kt : ¬ x = none → GG p l e R s m args below meth c nL A DD Q kc ks σ (tgt) (lv) (st)) (kf : x = none → GG p l e R s m args below meth c nL A DD Q kc ks σ (pc + 3) (lv) (st)) : GG p l e R s m args below meth c nL A DD Q kc ks σ (pc) (lv) (tR x :: st) := by
  intro H locs ls h1 h2 h3
  cases x with
  | none => exact lv_ifnonnullN X.1 X.2.1 hd (kf rfl H locs ls h1 h2 h3)
  | some a => exact lv_ifnonnull X.1 X.2.1 hd ht (kt (fun z => by cases z) H locs ls h1 h2 h3)
theorem r_tableIn (X : CX p s m args c cc nL A DD own) {dflt lo hi : Int} {offs : Array Int} {len : Nat} {x : Int32} {off : Int} {tgt : Nat} (hd : decode cc pc = .ok (.tableswitch dflt lo hi offs, len)) (h1 : ¬ x.toInt < lo) (h2 : ¬ hi < x.toInt) (ho : offs[(x.toInt - lo).toNat]? = some off) (ht : (pc : Int) + off = (tgt : Int)) (k : GG p l e R s m args below meth c nL A DD Q kc ks σ (tgt) (lv) (st)) : GG p l e R s m args below meth c nL A DD Q kc ks σ (pc) (lv) (tI x :: st) := fun H locs ls g1 g2 g3 => lv_tableIn X.1 X.2.1 hd h1 h2 ho ht (k H locs ls g1 g2 g3)
theorem r_tableOut (X : CX p s m args c cc nL A DD own) {dflt lo hi : Int} {offs : Array Int} {len : Nat} {x : Int32} {tgt : Nat} (hd : decode cc pc = .ok (.tableswitch dflt lo hi offs, len)) (h : x.toInt < lo ∨ hi < x.toInt) (ht : (pc : Int) + dflt = (tgt : Int)) (k : GG p l e R s m args below meth c nL A DD Q kc ks σ (tgt) (lv) (st)) : GG p l e R s m args below meth c nL A DD Q kc ks σ (pc) (lv) (tI x :: st) := fun H locs ls g1 g2 g3 => lv_tableOut X.1 X.2.1 hd h ht (k H locs ls g1 g2 g3)
theorem r_sub (js : List Nat) {lv' : List (Nat × TV)} (hl : tv_pick lv js = lv') (k : GG p l e R s m args below meth c nL A DD Q kc ks σ (pc) (lv') (st)) : GG p l e R s m args below meth c nL A DD Q kc ks σ (pc) (lv) (st) := fun H locs ls h1 h2 h3 => k H locs ls h1 h2 (lv_mono h3 (lvm_sub (tv_pick_sub hl)))
theorem r_widen {kc2 ks2 : Nat} (h1 : kc ≤ kc2) (h2 : ks ≤ ks2) (k : GG p l e R s m args below meth c nL A DD Q kc2 ks2 σ (pc) (lv) (st)) : GG p l e R s m args below meth c nL A DD Q kc ks σ (pc) (lv) (st) := fun H locs ls g1 g2 g3 => W.widen h1 h2 (k H locs ls g1 g2 g3)
theorem lays_all {args : Array Value} {s : State} (h : TW args s) {ci : Nat} (hci : ci < 12) : ∀ w ∈ u_ws (kR ci) (kT ci) (kN ci), w.before args s = true := fun w hw => h w (ky_in hci w hw).1 (ky_in hci w hw).2
theorem r_ld_I (X : CX p s m args c cc nL A DD own) {r : Option Nat} {ci k index : Nat} {x : Int32} (hg : ld_I σ r ci k = some x) (hci : ci < 12) (hk : k < kN ci) (hty : kY ci k = .int ∨ kY ci k = .boolean) (hdc : (kT ci k).1 = kR ci) (hw : Cond.fieldLink own index (kR ci) (kT ci k).2.1 (kT ci k).2.2.1 ∈ lw_tbl) (hd : decode cc pc = .ok (.getfield index, 3)) (kk : GG p l e R s m args below meth c nL A DD Q kc ks σ (pc + 3) (lv) (tI x :: st)) : GG p l e R s m args below meth c nL A DD Q kc ks σ (pc) (lv) (tR r :: st) := by
  intro H locs ls h1 h2 h3
  obtain ⟨a, ha, hx⟩ := omap hg
  obtain ⟨rfl, hc⟩ := is_O_spec ha
  obtain ⟨g1, g2, g3, cell, q1, q2, q3, q4⟩ := h1.2.1 a ci hc
  obtain ⟨hS, hfc, kC, hkC, hkind⟩ := X.2.2.2.2.2.1.1.1 ci _ (kcl_at hci)
  obtain ⟨cf, kf, fi, f, hi, hsl⟩ := hS k hk
  refine W.getf X.1 X.2.1 X.2.2.2.1 (X.2.2.2.2.1 _ hw rfl) (by rw [← hdc]; exact hi) (u_facts hfc hkC (u_lays (lays_all X.2.2.2.2.1 hci) (fun _ h => h) hk) hi).1 q1 (by rw [q3]; exact fun h => by cases h) (v := tv (tI x)) ?_ rfl rfl hd (kk H locs ls h1 h2 h3)
  rw [hsl, q4 k hk]
  subst hx; rcases hty with hty | hty <;> simp [fv, hty, tv]
theorem r_ld_L (X : CX p s m args c cc nL A DD own) {r : Option Nat} {ci k index : Nat} {x : Int64} (hg : ld_L σ r ci k = some x) (hci : ci < 12) (hk : k < kN ci) (hty : kY ci k = .long) (hdc : (kT ci k).1 = kR ci) (hw : Cond.fieldLink own index (kR ci) (kT ci k).2.1 (kT ci k).2.2.1 ∈ lw_tbl) (hd : decode cc pc = .ok (.getfield index, 3)) (kk : GG p l e R s m args below meth c nL A DD Q kc ks σ (pc + 3) (lv) (tL x :: st)) : GG p l e R s m args below meth c nL A DD Q kc ks σ (pc) (lv) (tR r :: st) := by
  intro H locs ls h1 h2 h3
  obtain ⟨a, ha, hx⟩ := omap hg
  obtain ⟨rfl, hc⟩ := is_O_spec ha
  obtain ⟨g1, g2, g3, cell, q1, q2, q3, q4⟩ := h1.2.1 a ci hc
  obtain ⟨hS, hfc, kC, hkC, hkind⟩ := X.2.2.2.2.2.1.1.1 ci _ (kcl_at hci)
  obtain ⟨cf, kf, fi, f, hi, hsl⟩ := hS k hk
  refine W.getf X.1 X.2.1 X.2.2.2.1 (X.2.2.2.2.1 _ hw rfl) (by rw [← hdc]; exact hi) (u_facts hfc hkC (u_lays (lays_all X.2.2.2.2.1 hci) (fun _ h => h) hk) hi).1 q1 (by rw [q3]; exact fun h => by cases h) (v := tv (tL x)) ?_ rfl rfl hd (kk H locs ls h1 h2 h3)
  rw [hsl, q4 k hk]
  subst hx; simp [fv, hty, tv]
theorem r_ld_R (X : CX p s m args c cc nL A DD own) {r : Option Nat} {ci k index : Nat} {x : Option Nat} (hg : ld_R σ r ci k = some x) (hci : ci < 12) (hk : k < kN ci) (hty : isR (kY ci k) = true) (hdc : (kT ci k).1 = kR ci) (hw : Cond.fieldLink own index (kR ci) (kT ci k).2.1 (kT ci k).2.2.1 ∈ lw_tbl) (hd : decode cc pc = .ok (.getfield index, 3)) (kk : GG p l e R s m args below meth c nL A DD Q kc ks σ (pc + 3) (lv) (tR x :: st)) : GG p l e R s m args below meth c nL A DD Q kc ks σ (pc) (lv) (tR r :: st) := by
  intro H locs ls h1 h2 h3
  obtain ⟨a, ha, hx⟩ := omap hg
  obtain ⟨rfl, hc⟩ := is_O_spec ha
  obtain ⟨g1, g2, g3, cell, q1, q2, q3, q4⟩ := h1.2.1 a ci hc
  obtain ⟨hS, hfc, kC, hkC, hkind⟩ := X.2.2.2.2.2.1.1.1 ci _ (kcl_at hci)
  obtain ⟨cf, kf, fi, f, hi, hsl⟩ := hS k hk
  refine W.getf X.1 X.2.1 X.2.2.2.1 (X.2.2.2.2.1 _ hw rfl) (by rw [← hdc]; exact hi) (u_facts hfc hkC (u_lays (lays_all X.2.2.2.2.1 hci) (fun _ h => h) hk) hi).1 q1 (by rw [q3]; exact fun h => by cases h) (v := tv (tR x)) ?_ rfl rfl hd (kk H locs ls h1 h2 h3)
  rw [hsl, q4 k hk]
  subst hx; cases h : kY ci k <;> rw [h] at hty <;> first | (simp [fv, h, tv]; done) | cases hty
theorem r_st_I (X : CX p s m args c cc nL A DD own) {r : Option Nat} {ci k index : Nat} {x : Int32} {σ' : Hp} (hg : st_I σ r ci k x = some σ') (hci : ci < 12) (hk : k < kN ci) (hty : kY ci k = .int) (hdc : (kT ci k).1 = kR ci) (hfin : (kT ci k).2.2.2 = false) (hw : Cond.fieldLink own index (kR ci) (kT ci k).2.1 (kT ci k).2.2.1 ∈ lw_tbl) (hd : decode cc pc = .ok (.putfield index, 3)) (kk : GG p l e R s m args below meth c nL A DD Q kc ks (σ') (pc + 3) (lv) (st)) : GG p l e R s m args below meth c nL A DD Q kc ks σ (pc) (lv) (tI x :: tR r :: st) := by
  intro H locs ls h1 h2 h3
  obtain ⟨a, ha, hx⟩ := omap hg
  obtain ⟨rfl, hc⟩ := is_O_spec ha
  subst hx
  obtain ⟨g1, g2, g3, cell, q1, q2, q3, q4⟩ := h1.2.1 a ci hc
  have hK := X.2.2.2.2.2.1.1
  have hla := lays_all X.2.2.2.2.1 hci
  obtain ⟨hS, hfc, kC, hkC, hkind⟩ := hK.1 ci _ (kcl_at hci)
  obtain ⟨cf, kf, fi, f, hi, hsl⟩ := hS k hk
  have hap := va_apart (own := own) (args := args) (s := s) hla (fun _ h => h) (kY ci) (kY_ok hci) (knm hci) hK (kcl_at hci)
  have hlay := hla _ (u_in_lay hk)
  unfold u_lay at hlay
  rw [if_neg (by rw [hfin]; decide)] at hlay
  have hst := (u_facts hfc hkC (u_lays hla (fun _ h => h) hk) hi).1
  have h6 := u_store (v := tv (tI x)) hfc hkC hkind hlay hi (kY_ok hci k hk) (by rw [hty]; rfl) (by rw [hty]; rfl)
  refine W.putK X.1 X.2.1 (f := f) ⟨X.2.2.2.1, X.2.2.2.2.1 _ hw rfl, ⟨_, _, _, by rw [← hdc]; exact hi⟩, hst⟩ (v := tv (tI x)) (by rw [q2]; exact h6) q1 q3 (by rw [hsl]; exact k2_hasslot (q4 k hk)) rfl rfl hd fun H' e1 e2 e3 => ?_
  rw [hsl] at e1 ⊢
  exact kk H' _ ls (h1.put hc (ptR_I (Or.inl hty)) e2 e3 ⟨_, e1, q2, q3, t_set q4 hap hk _⟩) (h2.put e2 e3 g2) h3
theorem r_st_L (X : CX p s m args c cc nL A DD own) {r : Option Nat} {ci k index : Nat} {x : Int64} {σ' : Hp} (hg : st_L σ r ci k x = some σ') (hci : ci < 12) (hk : k < kN ci) (hty : kY ci k = .long) (hdc : (kT ci k).1 = kR ci) (hfin : (kT ci k).2.2.2 = false) (hw : Cond.fieldLink own index (kR ci) (kT ci k).2.1 (kT ci k).2.2.1 ∈ lw_tbl) (hd : decode cc pc = .ok (.putfield index, 3)) (kk : GG p l e R s m args below meth c nL A DD Q kc ks (σ') (pc + 3) (lv) (st)) : GG p l e R s m args below meth c nL A DD Q kc ks σ (pc) (lv) (tL x :: tR r :: st) := by
  intro H locs ls h1 h2 h3
  obtain ⟨a, ha, hx⟩ := omap hg
  obtain ⟨rfl, hc⟩ := is_O_spec ha
  subst hx
  obtain ⟨g1, g2, g3, cell, q1, q2, q3, q4⟩ := h1.2.1 a ci hc
  have hK := X.2.2.2.2.2.1.1
  have hla := lays_all X.2.2.2.2.1 hci
  obtain ⟨hS, hfc, kC, hkC, hkind⟩ := hK.1 ci _ (kcl_at hci)
  obtain ⟨cf, kf, fi, f, hi, hsl⟩ := hS k hk
  have hap := va_apart (own := own) (args := args) (s := s) hla (fun _ h => h) (kY ci) (kY_ok hci) (knm hci) hK (kcl_at hci)
  have hlay := hla _ (u_in_lay hk)
  unfold u_lay at hlay
  rw [if_neg (by rw [hfin]; decide)] at hlay
  have hst := (u_facts hfc hkC (u_lays hla (fun _ h => h) hk) hi).1
  have h6 := u_store (v := tv (tL x)) hfc hkC hkind hlay hi (kY_ok hci k hk) (by rw [hty]; rfl) (by rw [hty]; rfl)
  refine W.putK X.1 X.2.1 (f := f) ⟨X.2.2.2.1, X.2.2.2.2.1 _ hw rfl, ⟨_, _, _, by rw [← hdc]; exact hi⟩, hst⟩ (v := tv (tL x)) (by rw [q2]; exact h6) q1 q3 (by rw [hsl]; exact k2_hasslot (q4 k hk)) rfl rfl hd fun H' e1 e2 e3 => ?_
  rw [hsl] at e1 ⊢
  exact kk H' _ ls (h1.put hc (ptR_L hty) e2 e3 ⟨_, e1, q2, q3, t_set q4 hap hk _⟩) (h2.put e2 e3 g2) h3
theorem r_st_R (X : CX p s m args c cc nL A DD own) {r : Option Nat} {ci k index : Nat} {x : Option Nat} {σ' : Hp} (hg : st_R σ r ci k x = some σ') (hci : ci < 12) (hk : k < kN ci) (hty : isR (kY ci k) = true) (hdc : (kT ci k).1 = kR ci) (hfin : (kT ci k).2.2.2 = false) (hw : Cond.fieldLink own index (kR ci) (kT ci k).2.1 (kT ci k).2.2.1 ∈ lw_tbl) (hd : decode cc pc = .ok (.putfield index, 3)) (kk : GG p l e R s m args below meth c nL A DD Q kc ks (σ') (pc + 3) (lv) (st)) : GG p l e R s m args below meth c nL A DD Q kc ks σ (pc) (lv) (tR x :: tR r :: st) := by
  intro H locs ls h1 h2 h3
  obtain ⟨a, ha, hx⟩ := omap hg
  obtain ⟨rfl, hc⟩ := is_O_spec ha
  subst hx
  obtain ⟨g1, g2, g3, cell, q1, q2, q3, q4⟩ := h1.2.1 a ci hc
  have hK := X.2.2.2.2.2.1.1
  have hla := lays_all X.2.2.2.2.1 hci
  obtain ⟨hS, hfc, kC, hkC, hkind⟩ := hK.1 ci _ (kcl_at hci)
  obtain ⟨cf, kf, fi, f, hi, hsl⟩ := hS k hk
  have hap := va_apart (own := own) (args := args) (s := s) hla (fun _ h => h) (kY ci) (kY_ok hci) (knm hci) hK (kcl_at hci)
  have hlay := hla _ (u_in_lay hk)
  unfold u_lay at hlay
  rw [if_neg (by rw [hfin]; decide)] at hlay
  have hst := (u_facts hfc hkC (u_lays hla (fun _ h => h) hk) hi).1
  have h6 := u_store (v := tv (tR x)) hfc hkC hkind hlay hi (kY_ok hci k hk) (by cases h : kY ci k <;> rw [h] at hty <;> first | (cases x <;> rfl) | cases hty) (by cases h : kY ci k <;> rw [h] at hty <;> first | (cases x <;> rfl) | cases hty)
  refine W.putK X.1 X.2.1 (f := f) ⟨X.2.2.2.1, X.2.2.2.2.1 _ hw rfl, ⟨_, _, _, by rw [← hdc]; exact hi⟩, hst⟩ (v := tv (tR x)) (by rw [q2]; exact h6) q1 q3 (by rw [hsl]; exact k2_hasslot (q4 k hk)) rfl rfl hd fun H' e1 e2 e3 => ?_
  rw [hsl] at e1 ⊢
  exact kk H' _ ls (h1.put hc (ptR_R hty) e2 e3 ⟨_, e1, q2, q3, t_set q4 hap hk _⟩) (h2.put e2 e3 g2) h3
theorem r_stF_I (X : CX p s m args c cc nL A DD own) {r : Option Nat} {ci k index : Nat} {x : Int32} {σ' : Hp} (hg : st_I σ r ci k x = some σ') (hci : ci < 12) (hk : k < kN ci) (hty : kY ci k = .int) (hdc : (kT ci k).1 = kR ci) (hfin : (kT ci k).2.2.2 = true) (hin2 : meth.name = "<init>") (hown2 : kR ci = own) (hw : Cond.fieldLink own index (kR ci) (kT ci k).2.1 (kT ci k).2.2.1 ∈ lw_tbl) (hd : decode cc pc = .ok (.putfield index, 3)) (kk : GG p l e R s m args below meth c nL A DD Q kc ks (σ') (pc + 3) (lv) (st)) : GG p l e R s m args below meth c nL A DD Q kc ks σ (pc) (lv) (tI x :: tR r :: st) := by
  intro H locs ls h1 h2 h3
  obtain ⟨a, ha, hx⟩ := omap hg
  obtain ⟨rfl, hc⟩ := is_O_spec ha
  subst hx
  obtain ⟨g1, g2, g3, cell, q1, q2, q3, q4⟩ := h1.2.1 a ci hc
  have hK := X.2.2.2.2.2.1.1
  have hla := lays_all X.2.2.2.2.1 hci
  obtain ⟨hS, hfc, kC, hkC, hkind⟩ := hK.1 ci _ (kcl_at hci)
  obtain ⟨cf, kf, fi, f, hi, hsl⟩ := hS k hk
  have hap := va_apart (own := own) (args := args) (s := s) hla (fun _ h => h) (kY ci) (kY_ok hci) (knm hci) hK (kcl_at hci)
  have hlay := hla _ (u_in_lay hk)
  unfold u_lay at hlay
  rw [if_pos hfin] at hlay
  have hst := (u_facts hfc hkC (u_lays hla (fun _ h => h) hk) hi).1
  have hcf : m.cls = cf := by
    obtain ⟨_, _, c', _, _, _, -, -, hf', -, -, -, hown3, -⟩ := Cond.laysFinal_spec hlay
    have e1 : c' = cf := by have := hi.symm.trans hf'; simp at this; exact this.1.symm
    rw [hdc, hown2] at hown3
    rw [← e1]; exact Option.some.inj (X.2.2.2.1.symm.trans hown3)
  have h6 := u_fits (v := tv (tI x)) hfc hkC hkind (Or.inr hlay) hi (kY_ok hci k hk) (by rw [hty]; rfl) (by rw [hty]; rfl)
  refine W.putFinK X.1 X.2.1 X.2.2.2.1 (X.2.2.2.2.1 _ hw rfl) (by rw [← hdc]; exact hi) hst hcf hin2 (v := tv (tI x)) (by rw [q2]; exact h6) q1 q3 (by rw [hsl]; exact k2_hasslot (q4 k hk)) rfl rfl hd fun H' e1 e2 e3 => ?_
  rw [hsl] at e1 ⊢
  exact kk H' _ ls (h1.put hc (ptR_I (Or.inl hty)) e2 e3 ⟨_, e1, q2, q3, t_set q4 hap hk _⟩) (h2.put e2 e3 g2) h3
theorem r_stF_L (X : CX p s m args c cc nL A DD own) {r : Option Nat} {ci k index : Nat} {x : Int64} {σ' : Hp} (hg : st_L σ r ci k x = some σ') (hci : ci < 12) (hk : k < kN ci) (hty : kY ci k = .long) (hdc : (kT ci k).1 = kR ci) (hfin : (kT ci k).2.2.2 = true) (hin2 : meth.name = "<init>") (hown2 : kR ci = own) (hw : Cond.fieldLink own index (kR ci) (kT ci k).2.1 (kT ci k).2.2.1 ∈ lw_tbl) (hd : decode cc pc = .ok (.putfield index, 3)) (kk : GG p l e R s m args below meth c nL A DD Q kc ks (σ') (pc + 3) (lv) (st)) : GG p l e R s m args below meth c nL A DD Q kc ks σ (pc) (lv) (tL x :: tR r :: st) := by
  intro H locs ls h1 h2 h3
  obtain ⟨a, ha, hx⟩ := omap hg
  obtain ⟨rfl, hc⟩ := is_O_spec ha
  subst hx
  obtain ⟨g1, g2, g3, cell, q1, q2, q3, q4⟩ := h1.2.1 a ci hc
  have hK := X.2.2.2.2.2.1.1
  have hla := lays_all X.2.2.2.2.1 hci
  obtain ⟨hS, hfc, kC, hkC, hkind⟩ := hK.1 ci _ (kcl_at hci)
  obtain ⟨cf, kf, fi, f, hi, hsl⟩ := hS k hk
  have hap := va_apart (own := own) (args := args) (s := s) hla (fun _ h => h) (kY ci) (kY_ok hci) (knm hci) hK (kcl_at hci)
  have hlay := hla _ (u_in_lay hk)
  unfold u_lay at hlay
  rw [if_pos hfin] at hlay
  have hst := (u_facts hfc hkC (u_lays hla (fun _ h => h) hk) hi).1
  have hcf : m.cls = cf := by
    obtain ⟨_, _, c', _, _, _, -, -, hf', -, -, -, hown3, -⟩ := Cond.laysFinal_spec hlay
    have e1 : c' = cf := by have := hi.symm.trans hf'; simp at this; exact this.1.symm
    rw [hdc, hown2] at hown3
    rw [← e1]; exact Option.some.inj (X.2.2.2.1.symm.trans hown3)
  have h6 := u_fits (v := tv (tL x)) hfc hkC hkind (Or.inr hlay) hi (kY_ok hci k hk) (by rw [hty]; rfl) (by rw [hty]; rfl)
  refine W.putFinK X.1 X.2.1 X.2.2.2.1 (X.2.2.2.2.1 _ hw rfl) (by rw [← hdc]; exact hi) hst hcf hin2 (v := tv (tL x)) (by rw [q2]; exact h6) q1 q3 (by rw [hsl]; exact k2_hasslot (q4 k hk)) rfl rfl hd fun H' e1 e2 e3 => ?_
  rw [hsl] at e1 ⊢
  exact kk H' _ ls (h1.put hc (ptR_L hty) e2 e3 ⟨_, e1, q2, q3, t_set q4 hap hk _⟩) (h2.put e2 e3 g2) h3
theorem r_stF_R (X : CX p s m args c cc nL A DD own) {r : Option Nat} {ci k index : Nat} {x : Option Nat} {σ' : Hp} (hg : st_R σ r ci k x = some σ') (hci : ci < 12) (hk : k < kN ci) (hty : isR (kY ci k) = true) (hdc : (kT ci k).1 = kR ci) (hfin : (kT ci k).2.2.2 = true) (hin2 : meth.name = "<init>") (hown2 : kR ci = own) (hw : Cond.fieldLink own index (kR ci) (kT ci k).2.1 (kT ci k).2.2.1 ∈ lw_tbl) (hd : decode cc pc = .ok (.putfield index, 3)) (kk : GG p l e R s m args below meth c nL A DD Q kc ks (σ') (pc + 3) (lv) (st)) : GG p l e R s m args below meth c nL A DD Q kc ks σ (pc) (lv) (tR x :: tR r :: st) := by
  intro H locs ls h1 h2 h3
  obtain ⟨a, ha, hx⟩ := omap hg
  obtain ⟨rfl, hc⟩ := is_O_spec ha
  subst hx
  obtain ⟨g1, g2, g3, cell, q1, q2, q3, q4⟩ := h1.2.1 a ci hc
  have hK := X.2.2.2.2.2.1.1
  have hla := lays_all X.2.2.2.2.1 hci
  obtain ⟨hS, hfc, kC, hkC, hkind⟩ := hK.1 ci _ (kcl_at hci)
  obtain ⟨cf, kf, fi, f, hi, hsl⟩ := hS k hk
  have hap := va_apart (own := own) (args := args) (s := s) hla (fun _ h => h) (kY ci) (kY_ok hci) (knm hci) hK (kcl_at hci)
  have hlay := hla _ (u_in_lay hk)
  unfold u_lay at hlay
  rw [if_pos hfin] at hlay
  have hst := (u_facts hfc hkC (u_lays hla (fun _ h => h) hk) hi).1
  have hcf : m.cls = cf := by
    obtain ⟨_, _, c', _, _, _, -, -, hf', -, -, -, hown3, -⟩ := Cond.laysFinal_spec hlay
    have e1 : c' = cf := by have := hi.symm.trans hf'; simp at this; exact this.1.symm
    rw [hdc, hown2] at hown3
    rw [← e1]; exact Option.some.inj (X.2.2.2.1.symm.trans hown3)
  have h6 := u_fits (v := tv (tR x)) hfc hkC hkind (Or.inr hlay) hi (kY_ok hci k hk) (by cases h : kY ci k <;> rw [h] at hty <;> first | (cases x <;> rfl) | cases hty) (by cases h : kY ci k <;> rw [h] at hty <;> first | (cases x <;> rfl) | cases hty)
  refine W.putFinK X.1 X.2.1 X.2.2.2.1 (X.2.2.2.2.1 _ hw rfl) (by rw [← hdc]; exact hi) hst hcf hin2 (v := tv (tR x)) (by rw [q2]; exact h6) q1 q3 (by rw [hsl]; exact k2_hasslot (q4 k hk)) rfl rfl hd fun H' e1 e2 e3 => ?_
  rw [hsl] at e1 ⊢
  exact kk H' _ ls (h1.put hc (ptR_R hty) e2 e3 ⟨_, e1, q2, q3, t_set q4 hap hk _⟩) (h2.put e2 e3 g2) h3
theorem r_st_Z (X : CX p s m args c cc nL A DD own) {r : Option Nat} {ci k index : Nat} {x : Int32} {σ' : Hp} (hg : st_Z σ r ci k x = some σ') (hci : ci < 12) (hk : k < kN ci) (hty : kY ci k = .boolean) (hdc : (kT ci k).1 = kR ci) (hfin : (kT ci k).2.2.2 = false) (hw : Cond.fieldLink own index (kR ci) (kT ci k).2.1 (kT ci k).2.2.1 ∈ lw_tbl) (hd : decode cc pc = .ok (.putfield index, 3)) (kk : GG p l e R s m args below meth c nL A DD Q kc ks (σ') (pc + 3) (lv) (st)) : GG p l e R s m args below meth c nL A DD Q kc ks σ (pc) (lv) (tI x :: tR r :: st) := by
  intro H locs ls h1 h2 h3
  have hz : x = 0 ∨ x = 1 := by
    unfold st_Z at hg
    split at hg
    · assumption
    · cases hg
  have hg : (is_O σ r ci).map (fun a => up_I σ ci k a x) = some σ' := by
    unfold st_Z at hg
    rw [if_pos hz] at hg
    exact hg
  obtain ⟨a, ha, hx⟩ := omap hg
  obtain ⟨rfl, hc⟩ := is_O_spec ha
  subst hx
  obtain ⟨g1, g2, g3, cell, q1, q2, q3, q4⟩ := h1.2.1 a ci hc
  have hK := X.2.2.2.2.2.1.1
  have hla := lays_all X.2.2.2.2.1 hci
  obtain ⟨hS, hfc, kC, hkC, hkind⟩ := hK.1 ci _ (kcl_at hci)
  obtain ⟨cf, kf, fi, f, hi, hsl⟩ := hS k hk
  have hap := va_apart (own := own) (args := args) (s := s) hla (fun _ h => h) (kY ci) (kY_ok hci) (knm hci) hK (kcl_at hci)
  have hlay := hla _ (u_in_lay hk)
  unfold u_lay at hlay
  rw [if_neg (by rw [hfin]; decide)] at hlay
  have hst := (u_facts hfc hkC (u_lays hla (fun _ h => h) hk) hi).1
  have h6 := u_store (v := tv (tI x)) hfc hkC hkind hlay hi (kY_ok hci k hk) (by rw [hty]; rcases hz with rfl | rfl <;> rfl) (by rw [hty]; rcases hz with rfl | rfl <;> rfl)
  refine W.putK X.1 X.2.1 (f := f) ⟨X.2.2.2.1, X.2.2.2.2.1 _ hw rfl, ⟨_, _, _, by rw [← hdc]; exact hi⟩, hst⟩ (v := tv (tI x)) (by rw [q2]; exact h6) q1 q3 (by rw [hsl]; exact k2_hasslot (q4 k hk)) rfl rfl hd fun H' e1 e2 e3 => ?_
  rw [hsl] at e1 ⊢
  exact kk H' _ ls (h1.put hc (ptR_I (Or.inr hty)) e2 e3 ⟨_, e1, q2, q3, t_set q4 hap hk _⟩) (h2.put e2 e3 g2) h3
end RW
