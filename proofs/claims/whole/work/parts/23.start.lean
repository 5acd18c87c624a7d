/-! THE START: what the Statement gives, as the walk wants it -/
theorem kinst {c : Nat} (h : c < 12) : Cond.instantiable (kR c) (kN c) ∈ lw_tbl := by
  rcases (show c = 0 ∨ c = 1 ∨ c = 2 ∨ c = 3 ∨ c = 4 ∨ c = 5 ∨ c = 6 ∨ c = 7 ∨ c = 8 ∨ c = 9 ∨ c = 10 ∨ c = 11 by omega) with rfl | rfl | rfl | rfl | rfl | rfl | rfl | rfl | rfl | rfl | rfl | rfl
  · exact q21
  · exact q184
  · exact q116
  · exact q599
  · exact q99
  · exact q74
  · exact q33
  · exact q139
  · exact q133
  · exact q53
  · exact q453
  · exact q690
def em (h : Nat) : Hp := ((h, fun _ => none), fun _ _ _ => 0, fun _ _ _ => 0, fun _ _ _ => none, fun _ => none)
theorem wld_em {A : Nat → Prop} {DD : DT} {H : Heap} : wld A DD (em H.size) H := by
  refine ⟨rfl, fun a ci h => ?_, fun a t x h => ?_⟩
  · have h' : (none : Option Nat) = some ci := h
    cases h'
  · have h' : (none : Option (Nat × vp_A)) = some (t, x) := h
    cases h'
theorem arr_prim {args : Array Value} {s : State} {ty : FieldType} (h : (Cond.arrayClass ty).before args s = true) : ∃ cA, ArrOfT s cA ty ∧ s.vm.findClass ("[" ++ ty.toString) = some cA := by
  obtain ⟨cA, k, comp, h1, h2, h3⟩ := Cond.arrayClass_spec h
  exact ⟨cA, fun n z => ⟨fun k h => (by cases h), k, h2, comp, h3⟩, h1⟩
theorem arr_obj {args : Array Value} {s : State} {C : String} (h : (Cond.arrayOver (.object C)).before args s = true) : ∃ cA, ArrOfT s cA (.object C) ∧ va_RA s cA (.object C) := by
  obtain ⟨comp, cA, k, h1, h2, h3, h4, h5⟩ := Cond.arrayOver_spec h
  exact ⟨cA, fun n z => ⟨fun k h => (by cases h), k, h3, comp, h4⟩, k, comp, h3, h4, h1, h5⟩
set_option maxRecDepth 20000 in
theorem kn_start {b : Nat} {s : State} (hts : ∀ w ∈ lw_tbl, w.before #[Value.ref b] s = true) (hgv : (Jvm.Cond.and given_1 narrow_1).before #[Value.ref b] s = true) : ∃ DD : DT, KN DD (fun q => s.heap.size ≤ q) s := by
  have hT : TW #[Value.ref b] s := fun w hw _ => hts w hw
  have hs := flat_of_before _ hgv
  have hA : ∀ a : Nat, a < s.heap.size → ¬ (fun q => s.heap.size ≤ q) a := fun a h => Nat.not_le.mpr h
  have hcl : ∀ ci : Nat, ∃ (cC : ClassId) (iS : Nat → Nat), ci < 12 → u_Kn s (kR ci) (kT ci) (kN ci) cC iS := by
    intro ci
    by_cases h : ci < 12
    · obtain ⟨cC, iS, hk⟩ := u_known (C := kR ci) (T := kT ci) (N := kN ci) (n := kN ci) (lays_all hT h) (fun _ h => h) (hts _ (kinst h))
      exact ⟨cC, iS, fun _ => hk⟩
    · exact ⟨0, fun _ => 0, fun z => absurd z h⟩
  obtain ⟨c0, a0, f0⟩ := arr_prim (hts (.arrayClass .int) q72)
  obtain ⟨c1, a1, f1⟩ := arr_prim (hts (.arrayClass .long) q852)
  obtain ⟨c2, a2, f2⟩ := arr_prim (hts (.arrayClass .boolean) q853)
  obtain ⟨c3, a3, f3⟩ := arr_obj (hts (.arrayOver (.object "WindowCache$Entry")) q29)
  obtain ⟨c4, a4, f4⟩ := arr_obj (hts (.arrayOver (.object "WindowCache$Way")) q31)
  have hel : ∀ j : Nat, j < 4 → (Term.elem (.static "WindowCache$Counts" "ODD" "[I") (.int (Int32.ofNat j))).eval #[Value.ref b] s none [] s = some (oddv j) := by
    intro j hj
    rcases (show j = 0 ∨ j = 1 ∨ j = 2 ∨ j = 3 by omega) with rfl | rfl | rfl | rfl
    · exact va_eqt (z := -1640531527) (hs _ (by decide +kernel))
    · exact va_eqt (z := -2048144777) (hs _ (by decide +kernel))
    · exact va_eqt (z := -1028477379) (hs _ (by decide +kernel))
    · exact va_eqt (z := 668265263) (hs _ (by decide +kernel))
  obtain ⟨od, hod, hTb⟩ := va_Tof (args := #[Value.ref b]) (s := s) (tm := .static "WindowCache$Counts" "ODD" "[I") (ty := .int) (N := 4) (f := oddv) (A := fun q => s.heap.size ≤ q) (by decide) (hs _ (by decide +kernel)) (va_eqt (z := 4) (hs _ (by decide +kernel))) hel hA
  have hZ := va_Zref (A := fun q => s.heap.size ≤ q) (hts (.laysStatic "WindowCache$Counts" "ODD" "[I") q334) (hts (.initialized "WindowCache$Counts") q7) hod hA
  have hcast : ∀ j, j < 2 → (Cond.castable (xn j) (xn j)).before #[Value.ref b] s = true := by
    intro j hj
    rcases (show j = 0 ∨ j = 1 by omega) with rfl | rfl
    · exact hts _ q525
    · exact hts _ q658
  have hnot : ∀ j k, j < 2 → k < 2 → j ≠ k → (Cond.not (.castable (xn j) (xn k))).before #[Value.ref b] s = true := by
    intro j k hj hk hjk
    rcases (show (j = 0 ∧ k = 1) ∨ (j = 1 ∧ k = 0) by omega) with ⟨rfl, rfl⟩ | ⟨rfl, rfl⟩
    · exact hs _ (by decide +kernel)
    · exact hs _ (by decide +kernel)
  have hXC : XC s := by
    have hf : ∀ j, ∃ cj, j < 2 → s.vm.findClass (xn j) = some cj := by
      intro j
      by_cases h : j < 2
      · obtain ⟨x1, x2, y1, -⟩ := Cond.castable_spec (hcast j h)
        exact ⟨x1, fun _ => y1⟩
      · exact ⟨0, fun z => absurd z h⟩
    obtain ⟨cf, hcf⟩ : ∃ cf : Nat → ClassId, ∀ j, j < 2 → s.vm.findClass (xn j) = some (cf j) := ⟨fun j => Classical.choose (hf j), fun j hj => Classical.choose_spec (hf j) hj⟩
    refine ⟨cf, fun j k hj hk => ⟨hcf j hj, ?_⟩⟩
    have ej := hcf j hj
    have ek := hcf k hk
    by_cases hjk : j = k
    · subst hjk
      obtain ⟨x1, x2, y1, y2, y3⟩ := Cond.castable_spec (hcast j hj)
      cases ej.symm.trans y1
      cases ej.symm.trans y2
      rw [y3]; simp
    · have h := hnot j k hj hk hjk
      have hv := Cond.holds_not_iff.mp h
      simp only [Cond.value, ej, ek] at hv
      rw [Option.some.inj hv]; simp [hjk]
  refine ⟨((fun ci => Classical.choose (hcl ci), fun ci => Classical.choose (Classical.choose_spec (hcl ci))), (fun t => match t with | 0 => c0 | 1 => c1 | 2 => c2 | 3 => c3 | _ => c4), od), ⟨?_, ?_⟩, fun w hw => ?_, va_AO.of (hts (.arrayOver (.object "WindowCache$Entry")) q29), va_AO.of (hts (.arrayOver (.object "WindowCache$Way")) q31), hZ, hTb, ST.of (hts _ q550) (hs _ (by decide +kernel)) hA, ST.of (hts _ q552) (hs _ (by decide +kernel)) hA, fun w hw => ?_, hXC⟩
  · intro ci x hx
    have hlt : ci < 12 := (List.getElem?_eq_some_iff.mp hx).1
    rw [kcl_at hlt] at hx
    cases hx
    exact Classical.choose_spec (Classical.choose_spec (hcl ci)) hlt
  · intro k x hx
    have hlt : k < 5 := (List.getElem?_eq_some_iff.mp hx).1
    rcases (show k = 0 ∨ k = 1 ∨ k = 2 ∨ k = 3 ∨ k = 4 by omega) with rfl | rfl | rfl | rfl | rfl
    · cases hx; exact ⟨a0, f0⟩
    · cases hx; exact ⟨a1, f1⟩
    · cases hx; exact ⟨a2, f2⟩
    · cases hx; exact ⟨a3, f3⟩
    · cases hx; exact ⟨a4, f4⟩
  · simp only [nests, List.mem_cons, List.not_mem_nil, or_false] at hw
    rcases hw with rfl | rfl | rfl | rfl
    · exact va_Nw.of rfl (hts _ q34)
    · exact va_Nw.of rfl (hts _ q54)
    · exact va_Nw.of rfl (hts _ q75)
    · exact va_Nw.of rfl (hts _ q140)
  · simp only [decls, List.mem_cons, List.not_mem_nil, or_false] at hw
    rcases hw with rfl | rfl | rfl
    · exact va_Nw.of rfl (hts _ (List.mem_append_right _ (List.mem_of_getElem? (i := 526) (by decide +kernel))))
    · exact va_Nw.of rfl (hts _ (List.mem_append_right _ (List.mem_of_getElem? (i := 528) (by decide +kernel))))
    · exact va_Nw.of rfl (hts _ (List.mem_append_right _ (List.mem_of_getElem? (i := 530) (by decide +kernel))))
/-- the claim, but for what is pure: for every script the law's function answers 1 -/
def Pure : Prop := ∀ (xs : Nat → Int32) (L h : Nat), L ≤ 2563 → ∃ n N, N ≤ 600 ∧ f_L_law n N xs L (em h) (em h) = some 1
set_option maxHeartbeats 1000000 in
set_option maxRecDepth 100000 in
theorem whole_start {p : Program} {e : Env} {s : State} {m : MethodId} {below : List Frame} {meth : Method} {c : Code} (l : Launch) (hfl : l.flags = flags0) (hpure : Pure) {b L : Nat} {xs : Nat → Int32} (hL : L ≤ 2563) (C0 : lw_At p s m meth c b L xs) : W p l e room_1 s m #[Value.ref b] below meth c s.heap [] 0 0 (lw_Z below #[Value.ref b] s) (entryFrame m ([Value.ref b] : List Value).toArray 7) := by
  obtain ⟨hx, hb, hr, hml, hown, hts, hX, hbl, hlocks, hgv⟩ := id C0
  obtain ⟨DD, hKN⟩ := kn_start hts hgv
  obtain ⟨n, N, hN, hf⟩ := hpure xs L s.heap.size hL
  have X : CX p s m #[Value.ref b] c code 7 (fun q => s.heap.size ≤ q) DD "WindowCacheLaw" := ⟨hx, hb, hml, hown, fun w hw _ => hts w hw, hKN, fun q h => h⟩
  have hl := lv_entry ([.ref b]) (n := 7) (Nat.le_of_ble_eq_true rfl)
  rw [lg_entry_eq]
  generalize (lg_sl ([.ref b]) ++ List.replicate (7 - (lg_sl ([.ref b])).length) Slot.unset).toArray = ls at hl ⊢
  have hl : lv_has ls 7 (lvm [(0, tR (some b))]) := hl
  exact b_L_law hfl X hX hbl hr hlocks hL n N hN _ _ hf s.heap [] ls ⟨wld_em, wld_em, fun q z => by rcases z with z | z <;> exact absurd rfl z⟩ va_S.rf hl
