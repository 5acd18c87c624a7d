/-! THROWS. A cell that nobody looks at is made (the exception) -/
def nw_X (σ : Hp) : Hp := ((σ.1.1 + 1, σ.1.2), σ.2)
theorem wld.skip {A : Nat → Prop} {DD : DT} {σ : Hp} {H H1 : Heap} (h : wld A DD σ H) (hz : H1.size = H.size + 1) (oq : ∀ q : Nat, q < H.size → H1[q]? = H[q]?) : wld A DD (nw_X σ) H1 := by
  refine ⟨by rw [hz, h.1]; rfl, fun b cb hb => ?_, fun b t x hb => ?_⟩
  · obtain ⟨g1, g2, g3, g4⟩ := h.2.1 b cb hb
    exact ⟨g1, g2, g3, g4.kept (oq b (h.ltC hb))⟩
  · obtain ⟨g1, q, g2, g3⟩ := h.2.2 b t x hb
    exact ⟨g1, q, g2, by rw [oq b (h.ltA (x := (t, x)) hb)]; exact g3⟩
section TH
variable {p : Program} {l : Launch} {e : Env} {R : Room} {s : State} {m : MethodId} {args : Array Value} {below : List Frame} {meth : Method} {c : Code} {T : State} {locs : List Loc} {kc ks : Nat}
/-- the state at the call, but with the heap of now -/
def nowAt (s T : State) : State := { s with heap := T.heap, slotsUsed := T.slotsUsed }
/-- a method that stands at T stands there, too, as if it had been called with the heap of now -/
theorem rebase (X : Stand p l e R s m args below meth c T locs kc ks) (hc : kc ≤ R.cells) (hs : ks ≤ R.slots) : Stand p l e { R with cells := R.cells - kc, slots := R.slots - ks } (nowAt s T) m args below meth c T [] 0 0 := by
  refine ⟨X.admits, X.cas, X.clock, X.frames, ?_, X.hears, X.method, X.code, X.here, X.tail, X.warmed, X.limits, X.bytes, ?_⟩
  · have h := X.room
    have hb := X.book
    simp only [State.hasRoom, Bool.and_eq_true, decide_eq_true_eq] at h ⊢
    obtain ⟨⟨⟨⟨h1, h2⟩, h3⟩, h4⟩, h5⟩ := h
    have z := X.heapSize
    have u := X.used
    refine ⟨⟨⟨⟨h1, h2⟩, ?_⟩, ?_⟩, hb⟩
    · show T.heap.size + (R.cells - kc) ≤ _
      omega
    · show T.slotsUsed + (R.slots - ks) ≤ _
      omega
  · have e1 := X.same.1
    have hd : (T.heap.toList.drop T.heap.size) = [] := by simp
    refine ⟨e1, Nat.le_refl _, Nat.le_refl _, ?_, ?_, fun a c h => ⟨c, h, rfl, rfl, fun _ _ => rfl⟩⟩
    · show T.slotsUsed = T.slotsUsed + ((T.heap.toList.drop T.heap.size).map (·.slots.size)).sum
      rw [hd]; rfl
    · show ((T.heap.toList.drop T.heap.size).map (·.slots.size)).sum ≤ 0
      rw [hd]; exact Nat.le_refl _
/-- what came since then, seen from the call -/
theorem rebase_back (X : Stand p l e R s m args below meth c T locs kc ks) {t : State} {k n : Nat} (h : (nowAt s T).sameButNew ({ t with vm := s.vm } : State) [] k n) : s.sameButNew ({ t with vm := s.vm } : State) locs (kc + k) (ks + n) := by
  have e1 := X.same.1
  have h2 : (T.setVm s.vm).sameButNew ({ t with vm := s.vm } : State) [] k n := by
    obtain ⟨q1, q2, q3, q4, q5, q6⟩ := h
    refine ⟨?_, q2, q3, q4, q5, q6⟩
    refine q1.trans ?_
    rw [e1]
    show ({ (nowAt s T).setFrames ({ t with vm := s.vm } : State).frames with heap := t.heap, slotsUsed := t.slotsUsed } : State) = { (s.setFrames (T.setVm s.vm).frames).setFrames ({ t with vm := s.vm } : State).frames with heap := t.heap, slotsUsed := t.slotsUsed }
    rw [State.setFrames_setFrames]
    rfl
  have h3 := X.same.trans h2
  rw [List.append_nil] at h3
  exact h3
theorem same_heap {s : State} {t : State} {k n : Nat} (h : s.sameButNew t [] k n) : ∀ q : Nat, q < s.heap.size → t.heap[q]? = s.heap[q]? := by
  intro q hq
  obtain ⟨-, -, -, -, -, h6⟩ := h
  obtain ⟨c, hc⟩ : ∃ c, s.heap[q]? = some c := ⟨s.heap[q], by simp [hq]⟩
  obtain ⟨c', h1, h2, h3, h4⟩ := h6 q c hc
  rw [hc, h1, h2]
  have : c'.slots = c.slots := Array.ext_getElem? fun i => h4 i (by simp)
  rw [this]
end TH
def xnames : List String := ["java/lang/RuntimeException", "java/lang/Exception"]
def xidx (k : Nat) : Nat := match k with
  | 0 => 108
  | _ => 129
def xcls (k : Nat) : Nat := match k with
  | 0 => 106
  | _ => 127
/-- where each word comes from that making an exception asks -/
def xsrc (k : Nat) (w : Cond) : Bool := (decide (w ∈ lw_tbl) && (goodWord w && w.onTables)) || (decide (w ∈ decls) || (decide (w = Cond.castable (xn k) (xn k)) || (decide (w = Cond.laysStatic "java/lang/Throwable" "UNASSIGNED_STACK" "[Ljava/lang/StackTraceElement;") || (decide (w = Cond.laysStatic "java/lang/Throwable" "SUPPRESSED_SENTINEL" "Ljava/util/List;") || (decide (w = Cond.isRef (.static "java/lang/Throwable" "UNASSIGNED_STACK" "[Ljava/lang/StackTraceElement;")) || decide (w = Cond.isRef (.static "java/lang/Throwable" "SUPPRESSED_SENTINEL" "Ljava/util/List;")))))))
theorem xsrc0 : (Bundle.ownAtoms0 "WindowCache" (xidx 0) (xn 0) xnames).all (xsrc 0) = true := by decide +kernel
theorem xsrc1 : (Bundle.ownAtoms0 "WindowCache" (xidx 1) (xn 1) xnames).all (xsrc 1) = true := by decide +kernel
theorem xsrc_all {k : Nat} (hk : k < 2) : (Bundle.ownAtoms0 "WindowCache" (xidx k) (xn k) xnames).all (xsrc k) = true := by
  rcases (show k = 0 ∨ k = 1 by omega) with rfl | rfl
  · exact xsrc0
  · exact xsrc1
theorem xatoms {DD : DT} {A : Nat → Prop} {args : Array Value} {s U : State} (hT : TW args s) (hv : U.vm = s.vm) (hK : KN DD A U) {k : Nat} (hk : k < 2) : ∀ w ∈ Bundle.ownAtoms0 "WindowCache" (xidx k) (xn k) xnames, w.before args U = true := by
  intro w hw
  have h := List.all_eq_true.mp (xsrc_all hk) w hw
  simp only [xsrc, Bool.or_eq_true, Bool.and_eq_true, decide_eq_true_eq] at h
  obtain ⟨-, -, -, -, -, -, k7, k8, k9, k10⟩ := hK
  rcases h with ⟨h1, h2, h3⟩ | h | h | h | h | h | h
  · exact va_tabs h3 hv.symm (hT w h1 h2)
  · exact va_Nw.use (by
      simp only [decls, List.mem_cons, List.not_mem_nil, or_false] at h
      rcases h with rfl | rfl | rfl <;> rfl) (k9 w h)
  · rw [h]; exact k10.cast hk
  · rw [h]; exact k7.lays
  · rw [h]; exact k8.lays
  · rw [h]; exact k7.isRef
  · rw [h]; exact k8.isRef
/-- what a throw leaves: the exception's cell is new and of its class, the world but for it is σ' -/
def PostT (DD : DT) (σ : Hp) (k : Nat) (σ' : Hp) (mc ms : Nat) : Array Value → State → Outcome → State → Prop := fun _ st oc t => ∃ x : Nat, oc = .threw x ∧ st.heap.size ≤ x ∧ (∃ ce : Cell, t.heap[x]? = some ce ∧ ce.vm = .none ∧ st.vm.findClass (xn k) = some ce.cls) ∧ wld (dm σ) DD σ' t.heap ∧ va_F (dm σ) st t ∧ st.WarmedH t.vm ∧ ∃ L, st.sameButNew ({ t with vm := st.vm } : State) L mc ms ∧ ∀ q ∈ L, dm σ q.base
/-- a method's contract where it throws the exception k -/
def TH (l : Launch) (DD : DT) (y : MethodName) (cc : ByteArray) (n : Nat) (ret : Option FieldType) (rm : Room) (As : List TV) (σ : Hp) (k : Nat) (σ' : Hp) : Prop := MetFree l y (headSpec (wsM y cc n ret) rm) (Pre DD As σ) (fun _ _ _ _ _ => True) (PostT DD σ k σ' rm.cells rm.slots)
def QT (below : List Frame) (Qc : Array Value → State → Outcome → State → Prop) (a : Array Value) (s : State) : State → Prop := fun t => ∃ o, t.status = .running ∧ Ended t below o ∧ Qc a s o t
section THR
variable {p : Program} {l : Launch} {e : Env} {R : Room} {s : State} {m : MethodId} {args : Array Value} {below : List Frame} {meth : Method} {c : Code} {cc : ByteArray} {nL : Nat} {DD : DT} {kc ks pc : Nat} {σ σ0 : Hp} {lv : List (Nat × TV)}
set_option maxHeartbeats 1000000 in
/-- new E; dup; E.<init>(); athrow: out of the method -/
theorem r_throw (X : CX p s m args c cc nL (dm σ0) DD "WindowCache") (hfl : l.flags = flags0) (hlk : meth.locks = false) (hex : c.exceptionTable.toList = []) {k : Nat} (hk : k < 2) (hkc : kc + 1 ≤ R.cells) (hks : ks + 6 ≤ R.slots) (hfr : 5 < R.frames) (hlo : 82 ≤ R.locals)
    (hw : Cond.classLink "WindowCache" (xcls k) (xn k) ∈ lw_tbl) (hw2 : Cond.instantiable (xn k) 6 ∈ lw_tbl) (hw3 : Cond.initialized (xn k) ∈ lw_tbl)
    (hd0 : decode cc pc = .ok (.new (xcls k), 3)) (hd1 : decode cc (pc + 3) = .ok (.dup, 1)) (hd2 : decode cc (pc + 4) = .ok (.invokespecial (xidx k), 3)) (hd3 : decode cc (pc + 7) = .ok (.athrow, 1)) :
    GG p l e R s m args below meth c nL (dm σ0) DD (QT below (PostT DD σ0 k (nw_X σ) (kc + 1) (ks + 6)) args s) kc ks σ pc lv [] := by
  intro H locs ls h1 h2 h3 T hT X0
  subst hT
  have hKN : KN DD (dm σ0) (nowAt s T) := X.2.2.2.2.2.1.to (U := nowAt s T) rfl h2 (State.WarmedH.refl s) (fun _ h => h)
  have hat := xatoms X.2.2.2.2.1 (U := nowAt s T) rfl hKN hk
  have htr : e.platform.stackTraces = false := by
    rw [X0.admits.2.2.2.2.1]
    show l.stackTraces = false
    rw [Launch.stackTraces, hfl]
    decide +kernel
  have X1 := rebase X0 (by omega) (by omega)
  obtain ⟨cX, hcX⟩ : ∃ cX, s.vm.findClass (xn k) = some cX := by
    obtain ⟨-, -, -, -, -, -, -, -, -, cx, hcx⟩ := hKN
    exact ⟨cx k, (hcx k k hk hk).1⟩
  have K : W p l e { R with cells := R.cells - kc, slots := R.slots - ks } (nowAt s T) m args below meth c T.heap [] 0 0 (fun t => t.status = .running ∧ Ended t below (.threw T.heap.size) ∧ s.WarmedH t.vm ∧ (nowAt s T).sameButNew ({ t with vm := s.vm } : State) [] 1 6 ∧ ∃ ce, t.heap[T.heap.size]? = some ce ∧ ce.vm = .none ∧ s.vm.findClass (xn k) = some ce.cls) (F0 m pc ls []) := by
    have hR1 : ({ R with cells := R.cells - kc, slots := R.slots - ks } : Room).frames = R.frames ∧ ({ R with cells := R.cells - kc, slots := R.slots - ks } : Room).locals = R.locals := ⟨rfl, rfl⟩
    have tb : ∀ w ∈ lw_tbl, goodWord w = true → w.onTables = true → w.before args (nowAt s T) = true := fun w q1 q2 q3 => va_tabs q3 (rfl : s.vm = (nowAt s T).vm) (X.2.2.2.2.1 w q1 q2)
    have a1 : (Cond.classLink "WindowCache" (xcls k) (xn k)).before args (nowAt s T) = true := tb _ hw rfl rfl
    have a2 : (Cond.instantiable (xn k) 6).before args (nowAt s T) = true := tb _ hw2 rfl rfl
    have a3 : (Cond.initialized (xn k)).before args (nowAt s T) = true := tb _ hw3 rfl rfl
    have a4 : (nowAt s T).vm.findClass "WindowCache" = some m.cls := X.2.2.2.1
    have a5 : (nowAt s T).vm.findClass (xn k) = some cX := hcX
    have a6 : 0 + 1 ≤ ({ R with cells := R.cells - kc, slots := R.slots - ks } : Room).cells := by show 0 + 1 ≤ R.cells - kc; omega
    have a7 : 0 + 6 ≤ ({ R with cells := R.cells - kc, slots := R.slots - ks } : Room).slots := by show 0 + 6 ≤ R.slots - ks; omega
    generalize ({ R with cells := R.cells - kc, slots := R.slots - ks } : Room) = R1 at a6 a7 hR1 ⊢
    refine W.newcK (cC := cX) (own := "WindowCache") (C := xn k) (index := xcls k) (n := 6) (g := F0 m pc ls []) X.1 X.2.1 a4 a1 a2 a3 rfl hd0 a6 a7 a5 rfl (fun H1 kC hkC e1 z1 o1 => ?_)
    refine W.eq (g2 := F0 m (pc + 3) ls [.ref T.heap.size]) rfl ?_
    refine lv_dup X.1 X.2.1 hd1 rfl ?_
    intro T1 hT1 X2
    obtain ⟨U, u1, u2, u3, u4, u5, ce, u6, u7⟩ := X2.ctorThrow0 X.1 htr (own := "WindowCache") (cls := xn k) (names := xnames) (ic := xidx k) X.2.2.2.1 (by rcases (show k = 0 ∨ k = 1 by omega) with rfl | rfl <;> decide) (by decide) hat (fun x hx => by cases hx) (a := T.heap.size) (cX := cX) (kX := kC) hcX hkC (by rw [hT1]; exact e1) (Nat.le_refl _)
      (g := F0 m (pc + 4) ls [.ref T.heap.size, .ref T.heap.size]) rfl (by rw [X.2.2.1]; exact h3.1) rfl rfl (rest := []) rfl (by rw [X.2.1]; exact hd2) (by rw [X.2.1]; exact hd3) (by rw [hex]; intro x hx; cases hx) (by rw [hR1.1]; show 2 + 3 < R.frames; omega) (by rw [hR1.2]; show 2 * 0 + (1 + 0) + (13 * (2 + 1) + 41) ≤ R.locals; omega) hlk
    exact ⟨U, u1, u2, u3, u4, u5, ce, u6, u7.vm, u7.cls⟩
  obtain ⟨t, st, t1, t2, t3, t4, ce, t5, t6, t7⟩ := K T rfl X1
  have hh := same_heap t4
  have z1 : t.heap.size ≤ T.heap.size + 1 := t4.2.2.1
  have z2 : T.heap.size < t.heap.size := (Array.getElem?_eq_some_iff.mp t5).1
  have hsame := rebase_back X0 t4
  refine ⟨t, st, _, t1, t2, T.heap.size, rfl, h2.1, ⟨ce, t5, t6, t7⟩, h1.skip (by omega) hh, ⟨Nat.le_trans h2.1 (by omega), fun q q1 q2 => (hh q (Nat.lt_of_lt_of_le q1 h2.1)).trans (h2.2.1 q q1 q2)⟩, t3, locs, hsame, h2.2.2⟩
end THR
theorem r_metT {l : Launch} {DD : DT} {y : MethodName} {cc : ByteArray} {n : Nat} {ret : Option FieldType} {rm : Room} {As : List TV} {σ : Hp} {k : Nat} {σ' : Hp} (hy : plainName y.cls = true) (hn : (As.map tw_).sum ≤ n)
    (body : ∀ (p : Program) (e : Env) (s : State) (m : MethodId) (args : Array Value) (below : List Frame) (meth : Method) (c : Code), CX p s m args c cc n (dm σ) DD y.cls → meth.sig.returnType = ret → meth.locks = false → c.exceptionTable.toList = [] →
      GG p l e rm s m args below meth c n (dm σ) DD (QT below (PostT DD σ k σ' rm.cells rm.slots) args s) 0 0 σ 0 (tv_args 0 As) []) : TH l DD y cc n ret rm As σ k σ' := by
  refine MetFree.of_bodyS (code := cc) (maxLocals := n) (ret := ret) hy ?_ ?_
  · intro args s m h hn
    obtain ⟨meth, c, h1, h2, h3, h4, h5, h6, -, -⟩ := Cond.code_spec hn (atoms_spec (ws := wsM y cc n ret) h _ List.mem_cons_self)
    exact ⟨meth, c, h1, h2, h3, h4, h5, h6⟩
  · intro p e s m args below meth c s₁ B hml hv _
    obtain ⟨rfl, hw, hK⟩ := hv
    have hts := atoms_spec (ws := wsM y cc n ret) B.pre
    have hown : s.vm.findClass y.cls = some m.cls := findClass_of_methodNamed B.named
    have X : CX p s m (As.map tv).toArray c cc n (dm σ) DD y.cls := ⟨B.exec, B.bytes, hml, hown, TW_of hts, hK, fun q h => Or.inr (by rw [← hw.1]; exact h)⟩
    have hl := lv_entry (As.map tv) (n := n) (by rw [tv_sl]; exact hn)
    obtain ⟨meth', c', g1, g2, -, -, -, -, g7, -⟩ := Cond.code_spec B.named (hts _ List.mem_cons_self)
    have X0 := Stand.of_body B
    cases X0.method.symm.trans g1
    cases X0.code.symm.trans g2
    have hex : c.exceptionTable.toList = [] := by
      have h0 : c.exceptionTable.size = 0 := by simpa [Array.isEmpty] using g7
      exact List.eq_nil_of_length_eq_zero (by simpa using h0)
    have hh0 : s₁.heap = s.heap := by rw [B.state]; rfl
    rw [tv_args_eq] at hl
    obtain ⟨t, a1, o, b1, b2, b3⟩ := body p e s m _ below meth c X B.returns B.notSynchronized hex s.heap [] _ hw va_S.rf hl s₁ hh0 X0
    refine ⟨t, o, ?_, b1, b2, b3⟩
    rw [lg_entry_eq]
    exact a1
