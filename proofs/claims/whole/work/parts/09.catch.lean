/-! CATCHES: the search through a method's table, each row naming a class by a link that may not be resolved yet -/
theorem go_link {Q : Handler → _root_.Jvm.Pre} {E : CtlPost} {e : Env} {d : Bool} {acts : List Action} {s : State} {f : JFrame} {a : Addr} {x : ExceptionTableEntry} {t : List ExceptionTableEntry} {c : ClassId} {cell : Cell} (hx : covers x f.pc = true) (h0 : x.catchType ≠ 0)
    (hl : s.vm.ClassLinks e.platform f.method.cls x.catchType c) (hcell : s.heap[a]? = some cell) (hobj : ∀ k, cell.vm ≠ .statics k) (hk : ∃ k, s.vm.classes[cell.cls]? = some k) (hc : ∃ k, s.vm.classes[c]? = some k) :
    wp (findHandler.go f a (x :: t)) Q E e d acts s ↔ if s.vm.assignable cell.cls c = true then Q (.found x.handlerPc) d acts (s.setVm (s.vm.noted f.method.cls x.catchType (.cls c))) else wp (findHandler.go f a t) Q E e d acts (s.setVm (s.vm.noted f.method.cls x.catchType (.cls c))) := by
  obtain ⟨ha, ht⟩ := (resolveClass_links e.toSetting hl).op (op := VmOp.resolveClass f.method.cls x.catchType) rfl
  have al : s.vm.Alike (s.vm.noted f.method.cls x.catchType (.cls c)) := (Vm.Alike.refl s.vm).noted _ _ _
  obtain ⟨k1, hk1⟩ := hk
  obtain ⟨k2, hk2⟩ := hc
  obtain ⟨k1', hk1', -⟩ := al.2.2 _ _ hk1
  obtain ⟨k2', hk2', -⟩ := al.2.2 _ _ hk2
  have hx' : (decide (x.startPc ≤ f.pc) && decide (f.pc < x.endPc)) = true := hx
  cases hfit : s.vm.assignable cell.cls c with
  | true =>
    have hfit' : (s.vm.noted f.method.cls x.catchType (.cls c)).assignable cell.cls c = true := by rw [al.assignable]; exact hfit
    rw [if_pos rfl]
    simp only [Bool.and_eq_true, decide_eq_true_eq] at hx'
    simp [findHandler.go, hx', h0, ha, ht, hcell, hobj, hk1', hk2', hfit', VmOp.dirties, VmOp.acts]
  | false =>
    have hfit' : (s.vm.noted f.method.cls x.catchType (.cls c)).assignable cell.cls c = false := by rw [al.assignable]; exact hfit
    rw [if_neg (by decide)]
    simp only [Bool.and_eq_true, decide_eq_true_eq] at hx'
    simp [findHandler.go, hx', h0, ha, ht, hcell, hobj, hk1', hk2', hfit', VmOp.dirties, VmOp.acts]
/-- what a row of the table says of the thrown class: a link to a class, which takes it or doesn't -/
def RW (pl : Platform) (s : State) (d : ClassId) (pc : Nat) (thrown : ClassId) (y : ExceptionTableEntry) (b : Bool) : Prop := covers y pc = true ∧ y.catchType ≠ 0 ∧ ∃ c, s.vm.ClassLinks pl d y.catchType c ∧ s.vm.assignable thrown c = b
theorem go_all {e : Env} {s : State} {f : JFrame} {a : Addr} {cell : Cell} (hobj : ∀ k, cell.vm ≠ .statics k) (hk0 : ∃ k, s.vm.classes[cell.cls]? = some k) {x : ExceptionTableEntry} {rest : List ExceptionTableEntry} (hx : RW e.platform s f.method.cls f.pc cell.cls x true) :
    ∀ (pre : List ExceptionTableEntry) (S : State), s.WarmedH S.vm → S.heap[a]? = some cell → (∀ y ∈ pre, RW e.platform s f.method.cls f.pc cell.cls y false) → ∃ vm', s.WarmedH vm' ∧ ∀ (Q : Handler → _root_.Jvm.Pre) (E : CtlPost) (d : Bool) (acts : List Action), wp (findHandler.go f a (pre ++ x :: rest)) Q E e d acts S ↔ Q (.found x.handlerPc) d acts (S.setVm vm') := by
  obtain ⟨k0, hk0⟩ := hk0
  have one : ∀ (y : ExceptionTableEntry) (b : Bool) (t : List ExceptionTableEntry) (S : State), RW e.platform s f.method.cls f.pc cell.cls y b → s.WarmedH S.vm → S.heap[a]? = some cell → ∃ vm', s.WarmedH vm' ∧ ∀ (Q : Handler → _root_.Jvm.Pre) (E : CtlPost) (d : Bool) (acts : List Action), wp (findHandler.go f a (y :: t)) Q E e d acts S ↔ if b = true then Q (.found y.handlerPc) d acts (S.setVm vm') else wp (findHandler.go f a t) Q E e d acts (S.setVm vm') := by
    intro y b t S hy hW hcell
    obtain ⟨h1, h2, c, hl, hb⟩ := hy
    obtain ⟨dk, _, _, kt, hd, _, _, _, _, hkt, _, hopen⟩ := hl.here
    obtain ⟨kt', hkt', -⟩ := hW.alike.2.2 _ _ hkt
    obtain ⟨k0', hk0', -⟩ := hW.alike.2.2 _ _ hk0
    refine ⟨S.vm.noted f.method.cls y.catchType (.cls c), hW.noted hd hopen (State.rightAt_cls hl), fun Q E d acts => ?_⟩
    rw [go_link h1 h2 (hW.classLinks hl) hcell hobj ⟨k0', hk0'⟩ ⟨kt', hkt'⟩, hW.alike.assignable, hb]
  intro pre
  induction pre with
  | nil =>
    intro S hW hcell _
    obtain ⟨vm', h1, h2⟩ := one x true rest S hx hW hcell
    exact ⟨vm', h1, fun Q E d acts => by rw [List.nil_append, h2 Q E d acts, if_pos rfl]⟩
  | cons y ys ih =>
    intro S hW hcell hp
    obtain ⟨vm1, h1, h2⟩ := one y false (ys ++ x :: rest) S (hp y List.mem_cons_self) hW hcell
    obtain ⟨vm2, h3, h4⟩ := ih (S.setVm vm1) h1 hcell (fun z hz => hp z (List.mem_cons_of_mem _ hz))
    exact ⟨vm2, h3, fun Q E d acts => by rw [List.cons_append, h2 Q E d acts, if_neg (by decide), h4 Q E d acts]; rfl⟩
section CA
variable {p : Program} {l : Launch} {e : Env} {R : Room} {s : State} {m : MethodId} {args : Array Value} {below : List Frame} {meth : Method} {c : Code} {T : State} {locs : List Loc} {kc ks : Nat}
theorem caught_at (X : Stand p l e R s m args below meth c T locs kc ks) {g : JFrame} (hg : g.method = m) {a : Nat} {cell : Cell} (hcell : T.heap[a]? = some cell) (hvm : cell.vm = .none) (hk0 : ∃ k, s.vm.classes[cell.cls]? = some k) {pre : List ExceptionTableEntry} {x : ExceptionTableEntry} {rest : List ExceptionTableEntry}
    (hsplit : c.exceptionTable.toList = pre ++ x :: rest) (hpre : ∀ y ∈ pre, RW e.platform s m.cls g.pc cell.cls y false) (hx : RW e.platform s m.cls g.pc cell.cls x true) :
    ∃ vm', Stand p l e R s m args below meth c (T.setVm vm') locs kc ks ∧ ∀ target, Steps p.tables e below ((T.setVm vm').setTop { g with pc := x.handlerPc, stack := [.ref a] }) target → Steps p.tables e below ((T.setTop g).pushFrame (.throwing a)) target := by
  subst hg
  have hobj : ∀ k, cell.vm ≠ .statics k := fun k h => by rw [hvm] at h; cases h
  have uv : ((T.setTop g).pushFrame (.throwing a)).vm = T.vm := Stand.throwing_vm T g a
  have uh : ((T.setTop g).pushFrame (.throwing a)).heap = T.heap := Stand.throwing_heap T g a
  obtain ⟨vm', hW, hq⟩ := go_all (e := e) (f := g) (a := a) hobj hk0 (rest := rest) hx pre ((T.setTop g).pushFrame (.throwing a)) (by rw [uv]; exact X.warmed) (by rw [uh]; exact hcell) hpre
  have X' := X.noted hW
  refine ⟨vm', X', fun target hrest => ?_⟩
  have hfind : ∀ (Q : Handler → _root_.Jvm.Pre) (E : CtlPost) (d : Bool) (acts : List Action), wp (findHandler g a) Q E e d acts ((T.setTop g).pushFrame (.throwing a)) ↔ Q (.found x.handlerPc) d acts (((T.setTop g).pushFrame (.throwing a)).setVm vm') := fun Q E d acts => by
    rw [W.findHandler_eq (meth := meth) (code := c) (by rw [uv]; exact X.method') X.code, hsplit]
    exact hq Q E d acts
  obtain ⟨hgo, hw⟩ := X.here.throwing a
  refine Steps.head hgo hw ?_
  have key : ∀ (u : State) (r : List Frame), (∀ (Q : Handler → _root_.Jvm.Pre) (E : CtlPost) (d : Bool) (acts : List Action), wp (findHandler g a) Q E e d acts u ↔ Q (.found x.handlerPc) d acts (u.setVm vm')) → (stepThrowing e u a (.java g :: r)).1 = (u.setVm vm').setFrames (.java { g with pc := x.handlerPc, stack := [.ref a] } :: r) := by
    intro u r hu
    simp only [stepThrowing, searchFrame, vmDo]
    generalize hr : Sem.go _ e false [] u = res
    obtain ⟨as, rfl, ha⟩ := Sem.eq_ok_of hr (a := Handler.found x.handlerPc) (s' := u.setVm vm') (acts' := []) (by simp [hu _ _ _ _])
    rfl
  rw [stepThread_throwing (frames_entered X.here.top _), key _ _ hfind]
  obtain ⟨g₀, hg⟩ := Option.isSome_iff_exists.mp X.here.top
  obtain ⟨r, hr⟩ := State.topJava?_eq_some.mp hg
  have hr' : (T.setVm vm').frames = .java g₀ :: r := hr
  have e1 : ∀ (F G : List Frame), ((T.setFrames F).setVm vm').setFrames G = (T.setVm vm').setFrames G := fun F G => by
    show ((T.setVm vm').setFrames F).setFrames G = _
    rw [State.setFrames_setFrames]
  rw [State.setTop_of_frames _ hr'] at hrest
  rw [hr, List.tail_cons, State.pushFrame, State.setTop_of_frames _ hr, State.setFrames_setFrames, e1]
  exact hrest
/-- a call of which the contract says that it throws: the exception lies over the caller's frame -/
theorem callT_back {DD : DT} {y : MethodName} {bytes : ByteArray} {maxL : Nat} {ret : Option FieldType} {rm : Room} {As : List TV} {σ : Hp} {k : Nat} {σ' : Hp} (hM : TH l DD y bytes maxL ret rm As σ k σ') (X : Stand p l e R s m args below meth c T locs kc ks) {g : JFrame} (hg : g.method = m) (hsize : g.locals.size = c.maxLocals) {ig : Instr} {len : Nat} (hdg : decode c.code g.pc = .ok (ig, len))
    (hR : rm.frames + 1 ≤ R.frames ∧ 8 + (maxL + 11) + rm.locals ≤ R.locals) (hst : 2 * g.monitorRoom + (g.stack.map fun v => v.category).sum ≤ 8) (hf : kc + rm.cells ≤ R.cells ∧ ks + rm.slots ≤ R.slots) {mk : MethodId} (hn : T.methodNamed? y = some mk) (hts : ∀ w ∈ wsM y bytes maxL ret, w.before (As.map tv).toArray T = true) (hini : (Cond.initialized y.cls).before (As.map tv).toArray T = true) (hP : Pre DD As σ (As.map tv).toArray T) :
    ∃ (x : Nat) (T' : State) (L : List Loc), Stand p l e R s m args below meth c T' (locs ++ L) (kc + rm.cells) (ks + rm.slots) ∧ (∀ q ∈ L, dm σ q.base) ∧ T.heap.size ≤ x ∧ (∃ ce : Cell, T'.heap[x]? = some ce ∧ ce.vm = .none ∧ T.vm.findClass (xn k) = some ce.cls) ∧ wld (dm σ) DD σ' T'.heap ∧ (T.heap.size ≤ T'.heap.size ∧ ∀ q : Nat, q < T.heap.size → ¬ dm σ q → T'.heap[q]? = T.heap[q]?) ∧
      Steps p.tables e below (doInvoke e (T.setTop g) [] mk (As.map tv).toArray).1 ((T'.setTop g).pushFrame (.throwing x)) := by
  obtain ⟨methY, cY, hmY, hcY, -, hlY, -, -, -, -⟩ := Cond.code_spec hn (hts _ List.mem_cons_self)
  obtain ⟨kY, hkY, -⟩ := className_of_methodNamed hn
  have hinitY : kY.init = .initialized := Cond.initialized_spec (findClass_of_methodNamed hn) hkY hini
  have h : At T g.method c below := by rw [hg]; exact X.here
  have happ : (headSpec (wsM y bytes maxL ret) rm).appliesLoose y e.platform (T.calling g mk (As.map tv).toArray) = true :=
    Spec.appliesLoose_calling (g := g) h hdg hn hkY hinitY (X.room_calling (g := g) (R' := rm) hsize hmY hcY hR.1 (by rw [hlY]; omega) hf.1 hf.2) (atoms_intro hts)
  obtain ⟨mid, hmid⟩ := h.above
  have hfr : (T.setTop g).frames = (.java g :: mid) ++ below := by rw [State.frames_setTop' g h.top, hmid]; rfl
  obtain ⟨o, s₂, hsteps, -, hend, x, rfl, hx, ⟨ce, c1, c2, c3⟩, hw, hF, hW2, L, hsame, hL⟩ := Steps.callFree hM p X.admits X.cas X.clock (acts := []) hfr happ (Pre_blind _ _ _ _ hP) trivial
  rw [State.frames_setTop' g h.top, X.tail] at hend
  obtain ⟨T', X', hWT, hsT, rfl⟩ := X.outOfThrown hg (mk := mk) (a := (As.map tv).toArray) hend hW2 hsame
  have uh : ((T'.setTop g).pushFrame (.throwing x)).heap = T'.heap := Stand.throwing_heap T' g x
  rw [uh] at c1 hw
  refine ⟨x, T', L, X', hL, hx, ⟨ce, c1, c2, c3⟩, hw, ⟨by have := hF.1; rw [uh] at this; exact this, fun q q1 q2 => by have := hF.2 q q1 q2; rw [uh] at this; exact this⟩, hsteps⟩
end CA
section CB
variable {p : Program} {l : Launch} {e : Env} {R : Room} {s : State} {m : MethodId} {args : Array Value} {below : List Frame} {meth : Method} {c : Code} {cc : ByteArray} {nL : Nat} {A : Nat → Prop} {DD : DT} {own : String} {Q : State → Prop} {kc ks pc : Nat} {σ : Hp} {lv : List (Nat × TV)} {st : List TV}
theorem RW_of {pl : Platform} (hpl : pl.magicAccessors = ({} : Platform).magicAccessors) (hown : s.vm.findClass own = some m.cls) {thrown : ClassId} {k j : Nat} (hk : k < 2) (hj : j < 2) (ht : s.vm.findClass (xn k) = some thrown) (hX : XC s) {y : ExceptionTableEntry} {pc : Nat} (hc : covers y pc = true) (h0 : y.catchType ≠ 0) (hl : (Cond.classLink own y.catchType (xn j)).before args s = true) : RW pl s m.cls pc thrown y (decide (k = j)) := by
  obtain ⟨c', hc', hcl⟩ := Cond.classLink_spec hown hl pl hpl
  obtain ⟨cx, hcx⟩ := hX
  obtain ⟨a1, a2⟩ := hcx k j hk hj
  obtain ⟨b1, -⟩ := hcx j j hj hj
  cases ht.symm.trans a1
  cases hc'.symm.trans b1
  exact ⟨hc, h0, _, hcl, a2⟩
set_option maxHeartbeats 1000000 in
/-- a call that throws the exception k, caught by the row x of the method's own table -/
theorem r_callT (X : CX p s m args c cc nL A DD own) {y : MethodName} {bytes : ByteArray} {maxL index n : Nat} {ret : Option FieldType} {rm : Room} (As : List TV) {σ' : Hp} {k : Nat} {r : Option Nat} {ci b : Nat} (hk : k < 2) (hr : is_O σ r ci = some b) (hci : ci < 12) (hl : Cond.methodLink own index y ∈ lw_tbl) (hin : Cond.instanceMethod y ∈ lw_tbl) (hsel : Cond.selects (kR ci) y y ∈ lw_tbl) (hM : TH l DD y bytes maxL ret rm (tR r :: As) σ k σ')
    (hcd : Cond.code y bytes maxL ret ∈ lw_tbl) (hini : Cond.initialized y.cls ∈ lw_tbl) (hdd : y.cls ≠ "java/lang/invoke/MethodHandle" ∧ y.cls ≠ "java/lang/invoke/VarHandle" ∧ (parseMethodDescriptor y.desc).map (fun d => d.parameters.length) = some n) (hn : As.length = n) (hR : rm.frames + 1 ≤ R.frames ∧ 8 + (maxL + 11) + rm.locals ≤ R.locals) (hroom : (st.map tw_).sum ≤ 8) (hf : kc + rm.cells ≤ R.cells ∧ ks + rm.slots ≤ R.slots) (hd : decode cc pc = .ok (.invokevirtual index, 3))
    {pre : List ExceptionTableEntry} {x : ExceptionTableEntry} {rest : List ExceptionTableEntry} (hsplit : c.exceptionTable.toList = pre ++ x :: rest) (hpre : ∀ z ∈ pre, covers z pc = true ∧ z.catchType ≠ 0 ∧ ∃ j, j < 2 ∧ k ≠ j ∧ Cond.classLink own z.catchType (xn j) ∈ lw_tbl) (hx : covers x pc = true) (hx0 : x.catchType ≠ 0) (hxl : Cond.classLink own x.catchType (xn k) ∈ lw_tbl)
    (kk : ∀ v : Nat, GG p l e R s m args below meth c nL A DD Q (kc + rm.cells) (ks + rm.slots) σ' x.handlerPc lv [tR (some v)]) : GG p l e R s m args below meth c nL A DD Q kc ks σ pc lv (As.reverse ++ tR r :: st) := by
  intro H locs ls h1 h2 h3 T hT X0
  subst hT
  obtain ⟨rfl, hc⟩ := is_O_spec hr
  obtain ⟨g1, g2, g3, cell, q1, q2, q3, q4⟩ := h1.2.1 b ci hc
  have tb : ∀ w ∈ lw_tbl, goodWord w = true → w.before args s = true := X.2.2.2.2.1
  obtain ⟨mk, methM, hnamed, hmethM, hstM, habM⟩ := Cond.instanceMethod_spec (tb _ hin rfl)
  obtain ⟨methM', cM, hmethM', -, -, -, -, -, -, hsigM⟩ := Cond.code_spec hnamed (tb _ hcd rfl)
  cases hmethM.symm.trans hmethM'
  obtain ⟨c2, r2, m2, w1, w2, w3, w4, kP, hkP, hkPi⟩ := Cond.selects_spec (tb _ hsel rfl)
  have hcls : s.vm.findClass (kR ci) = some cell.cls := by rw [q2]; exact (X.2.2.2.2.2.1.1.1 ci _ (kcl_at hci)).2.1
  cases hcls.symm.trans w1
  cases (State.methodFound?_of_named hnamed ⟨hdd.1, hdd.2.1⟩).symm.trans w2
  cases hnamed.symm.trans w3
  have hselP : selectMethod e.platform s.vm cell.cls mk = .method mk := by rw [Launch.admits_selectMethod X0.admits]; exact w4
  have hlen : (As.map tv).length = methM.sig.parameters.length := by
    have h2 := hdd.2.2
    rw [hsigM] at h2
    rw [List.length_map, hn]
    exact (Option.some.inj h2).symm
  obtain ⟨vm₁, X₁, hstep₁⟩ := X0.invokevirtual X.1 X.2.2.2.1 (tb _ hl rfl) hnamed hmethM hstM hkP hkPi ⟨hdd.1, hdd.2.1⟩ (a := b) (cell := cell) q1 (fun z h => by rw [q3] at h; cases h) hselP hmethM habM hkP hkPi (g := F0 m pc ls ((As.reverse ++ tR (some b) :: st).map tv)) rfl (argsL := As.map tv) (rest := st.map tv) hlen (by show (List.map tv (As.reverse ++ tR (some b) :: st)) = _; rw [List.map_append, List.map_reverse]; rfl) (by rw [X.2.1]; exact hd)
  have hW1 := X₁.warmed
  have hwd : ∀ w ∈ lw_tbl, goodWord w = true → w.before ((tR (some b) :: As).map tv).toArray (T.setVm vm₁) = true := fun w a1 a2 => word_at hW1 (good_of_word a2) (tb w a1 a2)
  obtain ⟨v, T', L, X', hL, hv, ⟨ce, c1, c2', c3⟩, hw, hF, hsteps⟩ := callT_back hM X₁ (g := F0 m pc ls (st.map tv)) rfl (by rw [X.2.2.1]; exact h3.1) (by rw [X.2.1]; exact hd) hR (by show 2 * 0 + _ ≤ 8; rw [tv_cats]; omega) hf (X₁.named hnamed) (TW_back hwd hcd) (hwd _ hini rfl) (pre_in (As := tR (some b) :: As) X h1 h2 (T.setVm vm₁) rfl hW1)
  have hpl : e.platform.magicAccessors = ({} : Platform).magicAccessors := by rw [X0.admits.platform]
  have hal : s.vm.Alike vm₁ := hW1.alike
  have c3' : s.vm.findClass (xn k) = some ce.cls := by rw [← hal.findClass]; exact c3
  have hXC : XC s := X.2.2.2.2.2.1.2.2.2.2.2.2.2.2.2
  obtain ⟨vm2, X2, hst2⟩ := caught_at X' (g := F0 m pc ls (st.map tv)) rfl c1 c2' (Vm.classAt_of_findClass c3') hsplit (fun z hz => by
      obtain ⟨a1, a2, j, a3, a4, a5⟩ := hpre z hz
      have := RW_of (m := m) hpl X.2.2.2.1 hk a3 c3' hXC a1 a2 (tb _ a5 rfl)
      rw [decide_eq_false a4] at this
      exact this) (by
      have := RW_of (m := m) hpl X.2.2.2.1 hk hk c3' hXC hx hx0 (tb _ hxl rfl)
      rw [decide_eq_true rfl] at this
      exact this)
  have hinn := h1.in (fun q h => X.2.2.2.2.2.2 q (Nat.le_trans h2.1 h))
  obtain ⟨t2, s2, b2⟩ := kk v T'.heap (locs ++ L) ls (hw.mono hinn) ⟨Nat.le_trans h2.1 hF.1, fun q a1 a2 => (hF.2 q (Nat.lt_of_lt_of_le a1 h2.1) (fun z => a2 (hinn q z))).trans (h2.2.1 q a1 a2), fun q hq => by
      rcases List.mem_append.mp hq with h | h
      · exact h2.2.2 q h
      · exact hinn _ (hL q h)⟩ h3 (T'.setVm vm2) rfl X2
  refine ⟨t2, hstep₁ _ (fun acts => ?_), b2⟩
  rw [doInvoke_state]
  exact hsteps.trans (hst2 _ s2)
end CB
/-! a method with a table of handlers -/
def wsW (y : MethodName) (cc : ByteArray) (n : Nat) (ret : Option FieldType) (hh : List (Nat × Nat × Nat × Nat)) : List Cond := .codeWith y cc n ret hh :: lw_tbl.filter goodWord
def CW (l : Launch) (DD : DT) (y : MethodName) (cc : ByteArray) (n : Nat) (ret : Option FieldType) (hh : List (Nat × Nat × Nat × Nat)) (rm : Room) (As : List TV) (σ : Hp) (res : Option TV) (σ' : Hp) : Prop := Met l y (wsW y cc n ret hh) rm (Pre DD As σ) (Post DD σ res σ') rm.cells rm.slots (dm σ)
theorem r_metW {l : Launch} {DD : DT} {y : MethodName} {cc : ByteArray} {n : Nat} {ret : Option FieldType} {hh : List (Nat × Nat × Nat × Nat)} {rm : Room} {As : List TV} {σ : Hp} {res : Option TV} {σ' : Hp} (hy : plainName y.cls = true) (hn : (As.map tw_).sum ≤ n)
    (body : ∀ (p : Program) (e : Env) (s : State) (m : MethodId) (args : Array Value) (below : List Frame) (meth : Method) (c : Code), CX p s m args c cc n (dm σ) DD y.cls → meth.sig.returnType = ret → meth.locks = false → c.exceptionTable.toList = tableOf hh →
      GG p l e rm s m args below meth c n (dm σ) DD (MQ below (Post DD σ res σ') args s rm.cells rm.slots (dm σ)) 0 0 σ 0 (tv_args 0 As) []) : CW l DD y cc n ret hh rm As σ res σ' := by
  refine va_MetW (cc := cc) (maxL := n) (ret := ret) (hh := hh) hy rfl ?_
  intro p e s m args below meth c s₁ B hml hv
  obtain ⟨rfl, hw, hK⟩ := hv
  have hts := atoms_spec (ws := wsW y cc n ret hh) B.pre
  have hown : s.vm.findClass y.cls = some m.cls := findClass_of_methodNamed B.named
  have hTW : TW (As.map tv).toArray s := fun w hw hg => hts w (List.mem_cons_of_mem _ (List.mem_filter.mpr ⟨hw, hg⟩))
  have X : CX p s m (As.map tv).toArray c cc n (dm σ) DD y.cls := ⟨B.exec, B.bytes, hml, hown, hTW, hK, fun q h => Or.inr (by rw [← hw.1]; exact h)⟩
  obtain ⟨m9, meth', c', hn9, g1, g2, -, -, g5, -, -, -⟩ := Cond.codeWith_spec (hts _ List.mem_cons_self)
  cases B.named.symm.trans hn9
  have X0 := Stand.of_body B
  cases X0.method.symm.trans g1
  cases X0.code.symm.trans g2
  have hex : c.exceptionTable.toList = tableOf hh := by rw [← g5, table_eq]
  have hl := lv_entry (As.map tv) (n := n) (by rw [tv_sl]; exact hn)
  rw [lg_entry_eq]
  rw [tv_args_eq] at hl
  exact body p e s m _ below meth c X B.returns B.notSynchronized hex s.heap [] _ hw va_S.rf hl
