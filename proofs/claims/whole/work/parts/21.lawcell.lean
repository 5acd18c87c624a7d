/-! THE CLAIM OUT OF ONE WALK OF THE LAW'S BODY. Your part is whole_start (and what it stands on); all else here is the same for every law, but numbers. -/
def R_law : String := "WindowCacheLaw"
def lw_P (b : Addr) (xs : List Int32) (args : Array Value) (s : State) : Prop := args = #[.ref b] ∧ s.IntsAt b xs ∧ xs.length ≤ 2563 ∧ (Jvm.Cond.and given_1 narrow_1).before args s = true
def lw_Q (_ : Array Value) (s : State) (o : Outcome) (t : State) : Prop := o = .returned (some (.int 1)) ∧ Framed s o t [] 601024 7293000
def lw_Z (below : List Frame) (a : Array Value) (s : State) : State → Prop := fun t => ∃ o, t.status = .running ∧ Ended t below o ∧ lw_Q a s o t
/-- the law's own end, with 1 on the stack, nothing written that was there before, its room as the claim has it -/
theorem lw_ret {p : Program} {l : Launch} {e : Env} {s : State} {m : MethodId} {below : List Frame} {meth : Method} {c : Code} {b : Nat} (hx : p.tables.exec = Jvm.exec) (hb : c.code = code) (hr : meth.sig.returnType = ret) (hlocks : meth.locks = false) {pc : Nat} {H : Heap} {ls : Array Slot} (hdg : decode code pc = .ok (.ireturn, 1)) : W p l e room_1 s m #[Value.ref b] below meth c H [] 601024 7293000 (lw_Z below #[Value.ref b] s) (F0 m pc ls [.int 1]) := by
  intro T hT X
  obtain ⟨fs, hret, hrun, hended, hW, hframe⟩ := X.leave (v := some (.int 1)) (hlocks := hlocks) (fun h => by rw [hr] at h; cases h)
  have hmeth' : T.vm.method? m = some meth := X.method'
  refine ⟨T.setFrames fs, ?_, .returned (some (.int 1)), hrun, hended, rfl, ⟨_, rfl⟩, hW, hframe⟩
  jvm_step X.here [X.here.top, hx, hb, hdg, hmeth', hr, ret, narrow_b1]
  (try refine ⟨rfl, ?_⟩); (try refine ⟨rfl, ?_⟩)
  first | (intro acts; rw [hret _ acts rfl rfl rfl]) | rw [hret _ _ rfl rfl rfl]
  exact Steps.refl _
/-- what holds at the law's entry: the machine, the code, the tables' words (any of lw_tbl by 'hts w (by decide +kernel)'), the script of L ints xs at the cell b, what the Statement gives of the start (any of its parts by flat_of_before) -/
def lw_At (p : Program) (s : State) (m : MethodId) (meth : Method) (c : Code) (b L : Nat) (xs : Nat → Int32) : Prop :=
  p.tables.exec = Jvm.exec ∧ c.code = code ∧ meth.sig.returnType = ret ∧ c.maxLocals = 7 ∧ s.vm.findClass R_law = some m.cls ∧ (∀ w ∈ lw_tbl, w.before #[Value.ref b] s = true) ∧ va_X b L xs s s.heap ∧ b < s.heap.size ∧ meth.locks = false ∧ (Jvm.Cond.and given_1 narrow_1).before #[Value.ref b] s = true

def y_L_cell : MethodName := ⟨"WindowCacheLaw", "cell", "([II)I"⟩
theorem d_L_cell_0 : decode method_2_code 0 = .ok (.iload_n 1, 1) := by decide +kernel
theorem d_L_cell_1 : decode method_2_code 1 = .ok (.aload_n 0, 1) := by decide +kernel
theorem d_L_cell_2 : decode method_2_code 2 = .ok (.arraylength, 1) := by decide +kernel
theorem d_L_cell_3 : decode method_2_code 3 = .ok (.if_icmp .ge 9, 3) := by decide +kernel
theorem d_L_cell_6 : decode method_2_code 6 = .ok (.aload_n 0, 1) := by decide +kernel
theorem d_L_cell_7 : decode method_2_code 7 = .ok (.iload_n 1, 1) := by decide +kernel
theorem d_L_cell_8 : decode method_2_code 8 = .ok (.iaload, 1) := by decide +kernel
theorem d_L_cell_9 : decode method_2_code 9 = .ok (.goto 4, 3) := by decide +kernel
theorem d_L_cell_12 : decode method_2_code 12 = .ok (.iconst 0, 1) := by decide +kernel
theorem d_L_cell_13 : decode method_2_code 13 = .ok (.ireturn, 1) := by decide +kernel
def cellv (xs : Nat → Int32) (L : Nat) (k : Int32) : Int32 := if Int32.ofNat L ≤ k then 0 else xs k.toNatClampNeg
set_option maxRecDepth 100000 in
theorem m_cell (l : Launch) {b L : Nat} {xs : Nat → Int32} {k : Int32} (hL : L ≤ 2563) (hk : ¬ k < 0) : Met l y_L_cell (wsM y_L_cell method_2_code 2 (some .int)) { frames := 0, cells := 0, slots := 0, locals := 0 } (va_Pc [.ref b, .int k] (fun U => va_X b L xs U U.heap)) (QcRead (cellv xs L k)) 0 0 (fun _ => False) := by
  refine Met.ofW (cc := method_2_code) (maxL := 2) (ret := some .int) (by decide) rfl ?_
  intro p e s m args below meth c s₁ B hml hv
  obtain ⟨rfl, hX⟩ := hv
  have hx := B.exec
  have hb := B.bytes
  have hr := B.returns
  have hlocks := B.notSynchronized
  have hbl : b < s.heap.size := by
    obtain ⟨scr, h1, -⟩ := hX
    exact (Array.getElem?_eq_some_iff.mp h1).1
  have hS : va_S (fun _ => False) s.heap s.heap [] := va_S.rf
  have hl := lv_entry ([.ref b, .int k]) (n := 2) (Nat.le_of_ble_eq_true rfl)
  rw [lg_entry_eq]
  generalize (lg_sl ([.ref b, .int k]) ++ List.replicate (2 - (lg_sl ([.ref b, .int k])).length) Slot.unset).toArray = ls at hl ⊢
  have hl : lv_has ls 2 [(0, .ref b), (1, .int k)] := hl
  refine lv_iload_n hx hb d_L_cell_0 rfl (lv_at hl 1 rfl) ?_
  refine lv_aload_n hx hb d_L_cell_1 rfl (lv_at hl 0 rfl) ?_
  refine va_slen hx hb hX hbl (fun h => h) hS d_L_cell_2 ?_
  refine lv_icmp_ge (tgt := 12) hx hb d_L_cell_3 (by decide) (fun hc => ?_) (fun hc => ?_)
  · refine lv_iconst (v := 0) hx hb d_L_cell_12 (by decide) ?_
    have e1 : cellv xs L k = 0 := if_pos hc
    rw [e1]
    exact W.iret hx hb hr (fun t ht hW => ⟨rfl, ht⟩) (fun q hq => by cases hq) d_L_cell_13
  · have e1 : cellv xs L k = xs k.toNatClampNeg := if_neg hc
    rw [e1]
    obtain ⟨j, hj, rfl⟩ := nI_of hk
    have hlt : j < L := by
      rcases Nat.lt_or_ge j L with q | q
      · exact q
      · exact absurd (nI_le q hj) hc
    refine lv_aload_n hx hb d_L_cell_6 rfl (lv_at hl 0 rfl) ?_
    refine lv_iload_n hx hb d_L_cell_7 rfl (lv_at hl 1 rfl) ?_
    refine va_sld hx hb hX hbl (fun h => h) hS (vp_in_nI hlt (by omega)) d_L_cell_8 ?_
    refine lv_goto (tgt := 13) hx hb d_L_cell_9 (by decide) ?_
    exact W.iret hx hb hr (fun t ht hW => ⟨rfl, ht⟩) (fun q hq => by cases hq) d_L_cell_13
section RC
variable {p : Program} {l : Launch} {e : Env} {s : State} {m : MethodId} {args : Array Value} {below : List Frame} {meth : Method} {c : Code} {cc : ByteArray} {nL : Nat} {DD : DT} {P : Heap → Prop} {Q : State → Prop} {kc ks pc : Nat} {lv : List (Nat × TV)} {st : List TV}
theorem rp_cell (X : CX p s m args c cc nL (fun q => s.heap.size ≤ q) DD "WindowCacheLaw") {b L : Nat} {xs : Nat → Int32} (hX : va_X b L xs s s.heap) (hbl : b < s.heap.size) (hL : L ≤ 2563) {k : Int32} (hk : ¬ k < 0) {index : Nat} (hl : Cond.methodLink "WindowCacheLaw" index y_L_cell ∈ lw_tbl) (hst : Cond.static y_L_cell ∈ lw_tbl) (hcd : Cond.code y_L_cell method_2_code 2 (some .int) ∈ lw_tbl) (hini : Cond.initialized y_L_cell.cls ∈ lw_tbl) (hd : decode cc pc = .ok (.invokestatic index, 3)) (hroom : (st.map tw_).sum ≤ 8) (hf : kc + 0 ≤ 601024 ∧ ks + 0 ≤ 7293000) (kk : GP p l e room_1 s m args below meth c nL (fun q => s.heap.size ≤ q) P Q kc ks (pc + 3) lv (tI (cellv xs L k) :: st)) : GP p l e room_1 s m args below meth c nL (fun q => s.heap.size ≤ q) P Q kc ks pc lv (tI k :: tR (some b) :: st) := by
  intro H locs ls h1 h2 h3
  have ht : ∀ w ∈ lw_tbl.filter goodWord, w.before args s = true := fun w hw => X.2.2.2.2.1 w (List.mem_filter.mp hw).1 (List.mem_filter.mp hw).2
  refine W.callR (g := F0 m pc ls (.int k :: .ref b :: st.map tv)) (rest := st.map tv) (r := cellv xs L k) (W.runS (As := [.ref b, .int k]) ⟨X.1, X.2.1, X.2.2.1, X.2.2.2.1, ht⟩ (m_cell l hL hk) ⟨callB_of 2 ht (wsM_good hcd) rfl rfl rfl (X.2.2.2.2.1 _ hini rfl) (X.2.2.2.2.1 _ hl rfl) (by decide +kernel) ⟨Nat.le_of_ble_eq_true rfl, Nat.le_of_ble_eq_true rfl⟩, X.2.2.2.2.1 _ hst rfl⟩ ⟨fun a U g mk q => ⟨q.1, q.2⟩, fun U hU hW => ⟨rfl, ?_⟩⟩ rfl rfl h3.1 rfl (lv_room (m := m) (pc := pc) (ls := ls) (rest := (.int k :: .ref b :: st.map tv)) (by rw [tv_cats]; exact hroom)) hd hf) (kk H locs ls h1 h2 h3)
  show va_X b L xs U U.heap
  rw [hU]
  exact (hX.kept (h2.2.1 b hbl (Nat.not_le.mpr hbl))).moved hW.alike
end RC
