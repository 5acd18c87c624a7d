/-! Room.cutOut and Room.addLatest over chains -/
/-- everything but the entries l of a room and the room itself stands -/
def Off (σ σ' : Hp) (ra : Nat) (l : List Nat) : Prop := M37 σ σ' ∧ (∀ k b, b ∉ l → hp_R σ' 3 k b = hp_R σ 3 k b) ∧ (∀ k b, b ≠ ra → hp_R σ' 7 k b = hp_R σ 7 k b) ∧ ∀ k b, b ≠ ra → hp_I σ' 7 k b = hp_I σ 7 k b
theorem len_pred (n : Nat) : nI (n + 1) - 1 = nI n := nI_pred n
theorem len_succ (n : Nat) : nI n + 1 = nI (n + 1) := nI_1 n
/-- what cutOut does last: the entry out, the room's sums -/
def cutH (τ : Hp) (ra a : Nat) (w s : Int32) : Hp := up_I (up_I (up_R (up_R (up_R τ 3 8 a none) 3 9 a none) 3 10 a none) 7 2 ra w) 7 3 ra s
theorem m37_cut {σ : Hp} {ra a : Nat} {x y : Int32} : M37 σ (cutH σ ra a x y) := (((M37.R3 (by omega)).trans (M37.R3 (by omega))).trans (M37.R3 (by omega))).trans (M37.I7.trans M37.I7)
theorem cH_C {τ : Hp} {ra a b : Nat} {w s : Int32} : hp_C (cutH τ ra a w s) b = hp_C τ b := rfl
theorem cH_3 {τ : Hp} {ra a k b : Nat} {w s : Int32} (hb : b ≠ a) : hp_R (cutH τ ra a w s) 3 k b = hp_R τ 3 k b := by
  simp only [cutH, hN_I, hN_L, hN_R, hN_A, hC_I, hC_L, hC_R, hC_A, hI_I, hI_L, hI_R, hI_A, hL_L, hL_I, hL_R, hL_A, hR_R, hR_I, hR_L, hR_A, hA_A, hA_I, hA_L, hA_R, Nat.reduceEqDiff, true_and, false_and, and_false, and_true, and_self, reduceIte, if_true, if_false, ite_self, hb]
theorem cH_8 {τ : Hp} {ra a : Nat} {w s : Int32} : hp_R (cutH τ ra a w s) 3 8 a = none := by
  simp only [cutH, hN_I, hN_L, hN_R, hN_A, hC_I, hC_L, hC_R, hC_A, hI_I, hI_L, hI_R, hI_A, hL_L, hL_I, hL_R, hL_A, hR_R, hR_I, hR_L, hR_A, hA_A, hA_I, hA_L, hA_R, Nat.reduceEqDiff, true_and, false_and, and_false, and_true, and_self, reduceIte, if_true, if_false, ite_self]
theorem cH_7 {τ : Hp} {ra a k b : Nat} {w s : Int32} : hp_R (cutH τ ra a w s) 7 k b = hp_R τ 7 k b := by
  simp only [cutH, hN_I, hN_L, hN_R, hN_A, hC_I, hC_L, hC_R, hC_A, hI_I, hI_L, hI_R, hI_A, hL_L, hL_I, hL_R, hL_A, hR_R, hR_I, hR_L, hR_A, hA_A, hA_I, hA_L, hA_R, Nat.reduceEqDiff, true_and, false_and, and_false, and_true, and_self, reduceIte, if_true, if_false, ite_self]
theorem cH_w {τ : Hp} {ra a : Nat} {w s : Int32} : hp_I (cutH τ ra a w s) 7 2 ra = w := by
  simp only [cutH, hN_I, hN_L, hN_R, hN_A, hC_I, hC_L, hC_R, hC_A, hI_I, hI_L, hI_R, hI_A, hL_L, hL_I, hL_R, hL_A, hR_R, hR_I, hR_L, hR_A, hA_A, hA_I, hA_L, hA_R, Nat.reduceEqDiff, true_and, false_and, and_false, and_true, and_self, reduceIte, if_true, if_false, ite_self]
theorem cH_s {τ : Hp} {ra a : Nat} {w s : Int32} : hp_I (cutH τ ra a w s) 7 3 ra = s := by
  simp only [cutH, hN_I, hN_L, hN_R, hN_A, hC_I, hC_L, hC_R, hC_A, hI_I, hI_L, hI_R, hI_A, hL_L, hL_I, hL_R, hL_A, hR_R, hR_I, hR_L, hR_A, hA_A, hA_I, hA_L, hA_R, Nat.reduceEqDiff, true_and, false_and, and_false, and_true, and_self, reduceIte, if_true, if_false, ite_self]
theorem cH_I {τ : Hp} {ra a k b : Nat} {w s : Int32} (hb : b ≠ ra) : hp_I (cutH τ ra a w s) 7 k b = hp_I τ 7 k b := by
  simp only [cutH, hN_I, hN_L, hN_R, hN_A, hC_I, hC_L, hC_R, hC_A, hI_I, hI_L, hI_R, hI_A, hL_L, hL_I, hL_R, hL_A, hR_R, hR_I, hR_L, hR_A, hA_A, hA_I, hA_L, hA_R, Nat.reduceEqDiff, true_and, false_and, and_false, and_true, and_self, reduceIte, if_true, if_false, ite_self, hb]
theorem cut_tail {σ : Hp} {ra a : Nat} (hr : hp_C σ ra = some 7) (ha : hp_C σ a = some 3) : f_Ro_cutOut_58 (some ra) (some a) σ = some (cutH σ ra a (hp_I σ 7 2 ra - hp_I σ 3 2 a) (hp_I σ 7 3 ra - 1)) := by
  simp [f_Ro_cutOut_58, ldI, ldL, ldR, stI, stL, stR, stZ0, stZ1, hr, ha, hN_I, hN_L, hN_R, hN_A, hC_I, hC_L, hC_R, hC_A, hI_I, hI_L, hI_R, hI_A, hL_L, hL_I, hL_R, hL_A, hR_R, hR_I, hR_L, hR_A, hA_A, hA_I, hA_L, hA_R, cutH]
theorem cutOut_ok {σ : Hp} {ra a : Nat} {l1 l2 : List Nat} (h : Chn σ ra (l1 ++ a :: l2)) :
    ∃ σ', f_Ro_cutOut (some ra) (some a) σ = some σ' ∧ Chn σ' ra (l1 ++ l2) ∧ hp_I σ' 7 2 ra = hp_I σ 7 2 ra - hp_I σ 3 2 a ∧ hp_R σ' 3 8 a = none ∧ Off σ σ' ra (l1 ++ a :: l2) := by
  obtain ⟨c1, c2, c3, c4, c5, c6⟩ := h
  obtain ⟨s1, t1, t2, t3, t4, t5⟩ := seg_app.mp c5
  have hne1 : ∀ b ∈ l1, b ≠ a := by
    intro b hb z; subst z
    exact (List.nodup_append.mp c6).2.2 b hb b List.mem_cons_self rfl
  have hne2 : ∀ b ∈ l2, b ≠ a := by
    intro b hb z; subst z
    exact (List.nodup_cons.mp (List.nodup_append.mp c6).2.1).1 hb
  have hd12 : ∀ b ∈ l1, ∀ d ∈ l2, b ≠ d := fun b hb d hd => (List.nodup_append.mp c6).2.2 b hb d (List.mem_cons_of_mem _ hd)
  have nd1 : l1.Nodup := (List.nodup_append.mp c6).1
  have nd2 : l2.Nodup := (List.nodup_cons.mp (List.nodup_append.mp c6).2.1).2
  have nd' : (l1 ++ l2).Nodup := List.nodup_append.mpr ⟨nd1, nd2, fun b hb d hd => hd12 b hb d hd⟩
  have hsz : hp_I σ 7 3 ra - 1 = nI (l1 ++ l2).length := by
    rw [c4, List.length_append, List.length_cons, ← Nat.add_assoc, len_pred, List.length_append]
  rcases List.eq_nil_or_concat l1 with e1 | ⟨l1', x, e1⟩
  · subst e1
    simp only [List.nil_append, List.getLast?_nil, Option.none_or] at *
    cases l2 with
    | nil =>
      refine ⟨cutH (up_R (up_R σ 7 0 ra none) 7 1 ra none) ra a (hp_I σ 7 2 ra - hp_I σ 3 2 a) (hp_I σ 7 3 ra - 1), by simp [f_Ro_cutOut, f_Ro_cutOut_29, ldI, ldL, ldR, stI, stL, stR, stZ0, stZ1, c1, t1, t3, t4, hN_I, hN_L, hN_R, hN_A, hC_I, hC_L, hC_R, hC_A, hI_I, hI_L, hI_R, hI_A, hL_L, hL_I, hL_R, hL_A, hR_R, hR_I, hR_L, hR_A, hA_A, hA_I, hA_L, hA_R, cut_tail], ⟨c1, ?_, ?_, ?_, trivial, nd'⟩, ?_, ?_, (M37.R7.trans M37.R7).trans m37_cut, ?_, ?_, ?_⟩
      · simp [cH_C, cH_3, cH_8, cH_7, cH_w, cH_s, cH_I, hR_R, hI_R, hC_R]
      · simp [cH_C, cH_3, cH_8, cH_7, cH_w, cH_s, cH_I, hR_R, hI_R, hC_R]
      · simp [cH_C, cH_3, cH_8, cH_7, cH_w, cH_s, cH_I, hR_R, hI_R, hC_R, hsz]
      · simp [cH_C, cH_3, cH_8, cH_7, cH_w, cH_s, cH_I, hR_R, hI_R, hC_R]
      · simp [cH_C, cH_3, cH_8, cH_7, cH_w, cH_s, cH_I, hR_R, hI_R, hC_R]
      · intro k b hb
        have hb' : b ≠ a := fun z => hb (by simp [z])
        simp [cH_C, cH_3, cH_8, cH_7, cH_w, cH_s, cH_I, hR_R, hI_R, hC_R, hb']
      · intro k b hb
        simp [cH_C, cH_3, cH_8, cH_7, cH_w, cH_s, cH_I, hR_R, hI_R, hC_R, hb]
      · intro k b hb
        simp [cH_C, cH_3, cH_8, cH_7, cH_w, cH_s, cH_I, hR_R, hI_R, hC_R, hb]
    | cons y l2 =>
      obtain ⟨u1, u2, u3, u4, u5⟩ := t5
      have hya : y ≠ a := hne2 y List.mem_cons_self
      have hy2 : ∀ b ∈ l2, b ≠ y := fun b hb z => (List.nodup_cons.mp nd2).1 (z ▸ hb)
      refine ⟨cutH (up_R (up_R σ 7 0 ra (some y)) 3 9 y none) ra a (hp_I σ 7 2 ra - hp_I σ 3 2 a) (hp_I σ 7 3 ra - 1), by simp [f_Ro_cutOut, f_Ro_cutOut_29, ldI, ldL, ldR, stI, stL, stR, stZ0, stZ1, c1, t1, t3, t4, hN_I, hN_L, hN_R, hN_A, hC_I, hC_L, hC_R, hC_A, hI_I, hI_L, hI_R, hI_A, hL_L, hL_I, hL_R, hL_A, hR_R, hR_I, hR_L, hR_A, hA_A, hA_I, hA_L, hA_R, cut_tail, u1], ⟨c1, ?_, ?_, ?_, ⟨u1, ?_, ?_, ?_, ?_⟩, nd'⟩, ?_, ?_, (M37.R7.trans (M37.R3 (by omega))).trans m37_cut, ?_, ?_, ?_⟩
      · simp [cH_C, cH_3, cH_8, cH_7, cH_w, cH_s, cH_I, hR_R, hI_R, hC_R]
      · simp [cH_C, cH_3, cH_8, cH_7, cH_w, cH_s, cH_I, hR_R, hI_R, hC_R, c3]
      · simp [cH_C, cH_3, cH_8, cH_7, cH_w, cH_s, cH_I, hR_R, hI_R, hC_R, hsz]
      · simp [cH_C, cH_3, cH_8, cH_7, cH_w, cH_s, cH_I, hR_R, hI_R, hC_R, hya, u2]
      · simp [cH_C, cH_3, cH_8, cH_7, cH_w, cH_s, cH_I, hR_R, hI_R, hC_R, hya]
      · simp [cH_C, cH_3, cH_8, cH_7, cH_w, cH_s, cH_I, hR_R, hI_R, hC_R, hya, u4]
      · refine seg_congr (fun b hb => ?_) u5
        have h1 := hne2 b (List.mem_cons_of_mem _ hb)
        have h2 := hy2 b hb
        simp [cH_C, cH_3, cH_8, cH_7, cH_w, cH_s, cH_I, hR_R, hI_R, hC_R, h1, h2]
      · simp [cH_C, cH_3, cH_8, cH_7, cH_w, cH_s, cH_I, hR_R, hI_R, hC_R]
      · simp [cH_C, cH_3, cH_8, cH_7, cH_w, cH_s, cH_I, hR_R, hI_R, hC_R]
      · intro k b hb
        have hb1 : b ≠ a := fun z => hb (by simp [z])
        have hb2 : b ≠ y := fun z => hb (by simp [z])
        simp [cH_C, cH_3, cH_8, cH_7, cH_w, cH_s, cH_I, hR_R, hI_R, hC_R, hb1, hb2]
      · intro k b hb
        simp [cH_C, cH_3, cH_8, cH_7, cH_w, cH_s, cH_I, hR_R, hI_R, hC_R, hb]
      · intro k b hb
        simp [cH_C, cH_3, cH_8, cH_7, cH_w, cH_s, cH_I, hR_R, hI_R, hC_R, hb]
  · subst e1
    rw [List.concat_eq_append] at *
    obtain ⟨v1, w1, w2, w3, w4, -⟩ := seg_app.mp s1
    have hxa : x ≠ a := hne1 x (by simp)
    have hx1 : ∀ b ∈ l1', b ≠ x := fun b hb z => (List.nodup_append.mp nd1).2.2 b hb x (by simp) z
    have t3' : hp_R σ 3 9 a = some x := by rw [t3]; simp
    have w4' : hp_R σ 3 10 x = some a := by rw [w4]; simp
    cases l2 with
    | nil =>
      refine ⟨cutH (up_R (up_R σ 3 10 x none) 7 1 ra (some x)) ra a (hp_I σ 7 2 ra - hp_I σ 3 2 a) (hp_I σ 7 3 ra - 1), by simp [f_Ro_cutOut, f_Ro_cutOut_29, ldI, ldL, ldR, stI, stL, stR, stZ0, stZ1, c1, t1, t3', t4, hN_I, hN_L, hN_R, hN_A, hC_I, hC_L, hC_R, hC_A, hI_I, hI_L, hI_R, hI_A, hL_L, hL_I, hL_R, hL_A, hR_R, hR_I, hR_L, hR_A, hA_A, hA_I, hA_L, hA_R, cut_tail, w1, hxa, Ne.symm hxa], ⟨c1, ?_, ?_, ?_, ?_, nd'⟩, ?_, ?_, ((M37.R3 (by omega)).trans M37.R7).trans m37_cut, ?_, ?_, ?_⟩
      · simp [cH_C, cH_3, cH_8, cH_7, cH_w, cH_s, cH_I, hR_R, hI_R, hC_R, c2]
      · simp [cH_C, cH_3, cH_8, cH_7, cH_w, cH_s, cH_I, hR_R, hI_R, hC_R]
      · simp [cH_C, cH_3, cH_8, cH_7, cH_w, cH_s, cH_I, hR_R, hI_R, hC_R, hsz]
      · rw [List.append_nil]
        refine seg_app.mpr ⟨seg_congr (fun b hb => ?_) v1, w1, ?_, ?_, ?_, trivial⟩
        · have h1 := hne1 b (by simp [hb])
          have h2 := hx1 b hb
          simp [cH_C, cH_3, cH_8, cH_7, cH_w, cH_s, cH_I, hR_R, hI_R, hC_R, h1, h2]
        · simp [cH_C, cH_3, cH_8, cH_7, cH_w, cH_s, cH_I, hR_R, hI_R, hC_R, hxa, w2]
        · simp [cH_C, cH_3, cH_8, cH_7, cH_w, cH_s, cH_I, hR_R, hI_R, hC_R, hxa, w3]
        · simp [cH_C, cH_3, cH_8, cH_7, cH_w, cH_s, cH_I, hR_R, hI_R, hC_R, hxa]
      · simp [cH_C, cH_3, cH_8, cH_7, cH_w, cH_s, cH_I, hR_R, hI_R, hC_R]
      · simp [cH_C, cH_3, cH_8, cH_7, cH_w, cH_s, cH_I, hR_R, hI_R, hC_R]
      · intro k b hb
        have hb1 : b ≠ a := fun z => hb (by simp [z])
        have hb2 : b ≠ x := fun z => hb (by simp [z])
        simp [cH_C, cH_3, cH_8, cH_7, cH_w, cH_s, cH_I, hR_R, hI_R, hC_R, hb1, hb2]
      · intro k b hb
        simp [cH_C, cH_3, cH_8, cH_7, cH_w, cH_s, cH_I, hR_R, hI_R, hC_R, hb]
      · intro k b hb
        simp [cH_C, cH_3, cH_8, cH_7, cH_w, cH_s, cH_I, hR_R, hI_R, hC_R, hb]
    | cons y l2 =>
      obtain ⟨u1, u2, u3, u4, u5⟩ := t5
      have hya : y ≠ a := hne2 y List.mem_cons_self
      have hxy : x ≠ y := hd12 x (by simp) y List.mem_cons_self
      have hy1 : ∀ b ∈ l1', b ≠ y := fun b hb => hd12 b (by simp [hb]) y List.mem_cons_self
      have hy2 : ∀ b ∈ l2, b ≠ y := fun b hb z => (List.nodup_cons.mp nd2).1 (z ▸ hb)
      have hx2 : ∀ b ∈ l2, b ≠ x := fun b hb z => hd12 x (by simp) b (List.mem_cons_of_mem _ hb) z.symm
      have t4' : hp_R σ 3 10 a = some y := by rw [t4]; simp
      refine ⟨cutH (up_R (up_R σ 3 10 x (some y)) 3 9 y (some x)) ra a (hp_I σ 7 2 ra - hp_I σ 3 2 a) (hp_I σ 7 3 ra - 1), by simp [f_Ro_cutOut, f_Ro_cutOut_29, ldI, ldL, ldR, stI, stL, stR, stZ0, stZ1, c1, t1, t3', t4', hN_I, hN_L, hN_R, hN_A, hC_I, hC_L, hC_R, hC_A, hI_I, hI_L, hI_R, hI_A, hL_L, hL_I, hL_R, hL_A, hR_R, hR_I, hR_L, hR_A, hA_A, hA_I, hA_L, hA_R, cut_tail, w1, u1, hxa, Ne.symm hxa], ⟨c1, ?_, ?_, ?_, ?_, nd'⟩, ?_, ?_, ((M37.R3 (by omega)).trans (M37.R3 (by omega))).trans m37_cut, ?_, ?_, ?_⟩
      · simp [cH_C, cH_3, cH_8, cH_7, cH_w, cH_s, cH_I, hR_R, hI_R, hC_R, c2]
      · simp [cH_C, cH_3, cH_8, cH_7, cH_w, cH_s, cH_I, hR_R, hI_R, hC_R, c3]
      · simp [cH_C, cH_3, cH_8, cH_7, cH_w, cH_s, cH_I, hR_R, hI_R, hC_R, hsz]
      · refine seg_app.mpr ⟨seg_app.mpr ⟨seg_congr (fun b hb => ?_) v1, w1, ?_, ?_, ?_, trivial⟩, u1, ?_, ?_, ?_, seg_congr (fun b hb => ?_) u5⟩
        · have h1 := hne1 b (by simp [hb])
          have h2 := hx1 b hb
          have h3 := hy1 b hb
          simp [cH_C, cH_3, cH_8, cH_7, cH_w, cH_s, cH_I, hR_R, hI_R, hC_R, h1, h2, h3]
        · simp [cH_C, cH_3, cH_8, cH_7, cH_w, cH_s, cH_I, hR_R, hI_R, hC_R, hxa, hxy, w2]
        · simp [cH_C, cH_3, cH_8, cH_7, cH_w, cH_s, cH_I, hR_R, hI_R, hC_R, hxa, hxy, w3]
        · simp [cH_C, cH_3, cH_8, cH_7, cH_w, cH_s, cH_I, hR_R, hI_R, hC_R, hxa, hxy]
        · simp [cH_C, cH_3, cH_8, cH_7, cH_w, cH_s, cH_I, hR_R, hI_R, hC_R, hya, Ne.symm hxy, u2]
        · simp [cH_C, cH_3, cH_8, cH_7, cH_w, cH_s, cH_I, hR_R, hI_R, hC_R, hya, Ne.symm hxy]
        · simp [cH_C, cH_3, cH_8, cH_7, cH_w, cH_s, cH_I, hR_R, hI_R, hC_R, hya, Ne.symm hxy, u4]
        · have h1 := hne2 b (List.mem_cons_of_mem _ hb)
          have h2 := hy2 b hb
          have h3 := hx2 b hb
          simp [cH_C, cH_3, cH_8, cH_7, cH_w, cH_s, cH_I, hR_R, hI_R, hC_R, h1, h2, h3]
      · simp [cH_C, cH_3, cH_8, cH_7, cH_w, cH_s, cH_I, hR_R, hI_R, hC_R]
      · simp [cH_C, cH_3, cH_8, cH_7, cH_w, cH_s, cH_I, hR_R, hI_R, hC_R]
      · intro k b hb
        have hb1 : b ≠ a := fun z => hb (by simp [z])
        have hb2 : b ≠ x := fun z => hb (by simp [z])
        have hb3 : b ≠ y := fun z => hb (by simp [z])
        simp [cH_C, cH_3, cH_8, cH_7, cH_w, cH_s, cH_I, hR_R, hI_R, hC_R, hb1, hb2, hb3]
      · intro k b hb
        simp [cH_C, cH_3, cH_8, cH_7, cH_w, cH_s, cH_I, hR_R, hI_R, hC_R, hb]
      · intro k b hb
        simp [cH_C, cH_3, cH_8, cH_7, cH_w, cH_s, cH_I, hR_R, hI_R, hC_R, hb]
/-- what addLatest does last -/
def addH (τ : Hp) (ra a : Nat) (w s : Int32) : Hp := up_I (up_I (up_R τ 7 1 ra (some a)) 7 2 ra w) 7 3 ra s
theorem m37_add {σ : Hp} {ra a : Nat} {x y : Int32} : M37 σ (addH σ ra a x y) := M37.R7.trans (M37.I7.trans M37.I7)
theorem aH_C {τ : Hp} {ra a b : Nat} {w s : Int32} : hp_C (addH τ ra a w s) b = hp_C τ b := rfl
theorem aH_3 {τ : Hp} {ra a k b : Nat} {w s : Int32} : hp_R (addH τ ra a w s) 3 k b = hp_R τ 3 k b := by
  simp only [addH, hN_I, hN_L, hN_R, hN_A, hC_I, hC_L, hC_R, hC_A, hI_I, hI_L, hI_R, hI_A, hL_L, hL_I, hL_R, hL_A, hR_R, hR_I, hR_L, hR_A, hA_A, hA_I, hA_L, hA_R, Nat.reduceEqDiff, true_and, false_and, and_false, and_true, and_self, reduceIte, if_true, if_false, ite_self]
theorem aH_1 {τ : Hp} {ra a : Nat} {w s : Int32} : hp_R (addH τ ra a w s) 7 1 ra = some a := by
  simp only [addH, hN_I, hN_L, hN_R, hN_A, hC_I, hC_L, hC_R, hC_A, hI_I, hI_L, hI_R, hI_A, hL_L, hL_I, hL_R, hL_A, hR_R, hR_I, hR_L, hR_A, hA_A, hA_I, hA_L, hA_R, Nat.reduceEqDiff, true_and, false_and, and_false, and_true, and_self, reduceIte, if_true, if_false, ite_self]
theorem aH_0 {τ : Hp} {ra a b : Nat} {w s : Int32} : hp_R (addH τ ra a w s) 7 0 b = hp_R τ 7 0 b := by
  simp only [addH, hN_I, hN_L, hN_R, hN_A, hC_I, hC_L, hC_R, hC_A, hI_I, hI_L, hI_R, hI_A, hL_L, hL_I, hL_R, hL_A, hR_R, hR_I, hR_L, hR_A, hA_A, hA_I, hA_L, hA_R, Nat.reduceEqDiff, true_and, false_and, and_false, and_true, and_self, reduceIte, if_true, if_false, ite_self]
theorem aH_7 {τ : Hp} {ra a k b : Nat} {w s : Int32} (hb : b ≠ ra) : hp_R (addH τ ra a w s) 7 k b = hp_R τ 7 k b := by
  simp only [addH, hN_I, hN_L, hN_R, hN_A, hC_I, hC_L, hC_R, hC_A, hI_I, hI_L, hI_R, hI_A, hL_L, hL_I, hL_R, hL_A, hR_R, hR_I, hR_L, hR_A, hA_A, hA_I, hA_L, hA_R, Nat.reduceEqDiff, true_and, false_and, and_false, and_true, and_self, reduceIte, if_true, if_false, ite_self, hb]
theorem aH_w {τ : Hp} {ra a : Nat} {w s : Int32} : hp_I (addH τ ra a w s) 7 2 ra = w := by
  simp only [addH, hN_I, hN_L, hN_R, hN_A, hC_I, hC_L, hC_R, hC_A, hI_I, hI_L, hI_R, hI_A, hL_L, hL_I, hL_R, hL_A, hR_R, hR_I, hR_L, hR_A, hA_A, hA_I, hA_L, hA_R, Nat.reduceEqDiff, true_and, false_and, and_false, and_true, and_self, reduceIte, if_true, if_false, ite_self]
theorem aH_s {τ : Hp} {ra a : Nat} {w s : Int32} : hp_I (addH τ ra a w s) 7 3 ra = s := by
  simp only [addH, hN_I, hN_L, hN_R, hN_A, hC_I, hC_L, hC_R, hC_A, hI_I, hI_L, hI_R, hI_A, hL_L, hL_I, hL_R, hL_A, hR_R, hR_I, hR_L, hR_A, hA_A, hA_I, hA_L, hA_R, Nat.reduceEqDiff, true_and, false_and, and_false, and_true, and_self, reduceIte, if_true, if_false, ite_self]
theorem aH_I {τ : Hp} {ra a k b : Nat} {w s : Int32} (hb : b ≠ ra) : hp_I (addH τ ra a w s) 7 k b = hp_I τ 7 k b := by
  simp only [addH, hN_I, hN_L, hN_R, hN_A, hC_I, hC_L, hC_R, hC_A, hI_I, hI_L, hI_R, hI_A, hL_L, hL_I, hL_R, hL_A, hR_R, hR_I, hR_L, hR_A, hA_A, hA_I, hA_L, hA_R, Nat.reduceEqDiff, true_and, false_and, and_false, and_true, and_self, reduceIte, if_true, if_false, ite_self, hb]
theorem addLatest_ok {σ : Hp} {ra a : Nat} {l : List Nat} (h : Chn σ ra l) (ha : hp_C σ a = some 3) (hal : a ∉ l) :
    ∃ σ', f_Ro_addLatest (some ra) (some a) σ = some σ' ∧ Chn σ' ra (l ++ [a]) ∧ hp_I σ' 7 2 ra = hp_I σ 7 2 ra + hp_I σ 3 2 a ∧ Off σ σ' ra (l ++ [a]) := by
  obtain ⟨c1, c2, c3, c4, c5, c6⟩ := h
  have nd' : (l ++ [a]).Nodup := List.nodup_append.mpr ⟨c6, by simp, fun b hb d hd z => by
    have : d = a := by simpa using hd
    exact hal (this ▸ z ▸ hb)⟩
  have hsz : hp_I σ 7 3 ra + 1 = nI (l ++ [a]).length := by
    rw [c4, len_succ, List.length_append]; rfl
  rcases List.eq_nil_or_concat l with e1 | ⟨l', x, e1⟩
  · subst e1
    refine ⟨addH (up_R (up_R (up_R (up_R σ 3 8 a (some ra)) 3 9 a none) 3 10 a none) 7 0 ra (some a)) ra a (hp_I σ 7 2 ra + hp_I σ 3 2 a) (hp_I σ 7 3 ra + 1), by simp [f_Ro_addLatest, f_Ro_addLatest_41, ldI, ldL, ldR, stI, stL, stR, stZ0, stZ1, c1, c3, ha, hN_I, hN_L, hN_R, hN_A, hC_I, hC_L, hC_R, hC_A, hI_I, hI_L, hI_R, hI_A, hL_L, hL_I, hL_R, hL_A, hR_R, hR_I, hR_L, hR_A, hA_A, hA_I, hA_L, hA_R, addH], ⟨c1, ?_, ?_, ?_, ⟨ha, ?_, ?_, ?_, trivial⟩, nd'⟩, ?_, ((((M37.R3 (by omega)).trans (M37.R3 (by omega))).trans (M37.R3 (by omega))).trans M37.R7).trans m37_add, ?_, ?_, ?_⟩
    · simp [aH_C, aH_3, aH_0, aH_1, aH_7, aH_w, aH_s, aH_I, hR_R, hI_R, hC_R]
    · simp [aH_C, aH_3, aH_0, aH_1, aH_7, aH_w, aH_s, aH_I, hR_R, hI_R, hC_R]
    · simp [aH_C, aH_3, aH_0, aH_1, aH_7, aH_w, aH_s, aH_I, hR_R, hI_R, hC_R, hsz]
    · simp [aH_C, aH_3, aH_0, aH_1, aH_7, aH_w, aH_s, aH_I, hR_R, hI_R, hC_R]
    · simp [aH_C, aH_3, aH_0, aH_1, aH_7, aH_w, aH_s, aH_I, hR_R, hI_R, hC_R]
    · simp [aH_C, aH_3, aH_0, aH_1, aH_7, aH_w, aH_s, aH_I, hR_R, hI_R, hC_R]
    · simp [aH_C, aH_3, aH_0, aH_1, aH_7, aH_w, aH_s, aH_I, hR_R, hI_R, hC_R]
    · intro k b hb
      have hb1 : b ≠ a := fun z => hb (by simp [z])
      simp [aH_C, aH_3, aH_0, aH_1, aH_7, aH_w, aH_s, aH_I, hR_R, hI_R, hC_R, hb1]
    · intro k b hb
      simp [aH_C, aH_3, aH_0, aH_1, aH_7, aH_w, aH_s, aH_I, hR_R, hI_R, hC_R, hb]
    · intro k b hb
      simp [aH_C, aH_3, aH_0, aH_1, aH_7, aH_w, aH_s, aH_I, hR_R, hI_R, hC_R, hb]
  · subst e1
    rw [List.concat_eq_append] at *
    obtain ⟨v1, w1, w2, w3, w4, -⟩ := seg_app.mp c5
    have hxa : x ≠ a := fun z => hal (by simp [z])
    have hx1 : ∀ b ∈ l', b ≠ x := fun b hb z => (List.nodup_append.mp c6).2.2 b hb x (by simp) z
    have ha1 : ∀ b ∈ l', b ≠ a := fun b hb z => hal (by simp [← z, hb])
    have c3' : hp_R σ 7 1 ra = some x := by rw [c3]; simp
    refine ⟨addH (up_R (up_R (up_R (up_R σ 3 8 a (some ra)) 3 9 a (some x)) 3 10 a none) 3 10 x (some a)) ra a (hp_I σ 7 2 ra + hp_I σ 3 2 a) (hp_I σ 7 3 ra + 1), by simp [f_Ro_addLatest, f_Ro_addLatest_41, ldI, ldL, ldR, stI, stL, stR, stZ0, stZ1, c1, c3', ha, hN_I, hN_L, hN_R, hN_A, hC_I, hC_L, hC_R, hC_A, hI_I, hI_L, hI_R, hI_A, hL_L, hL_I, hL_R, hL_A, hR_R, hR_I, hR_L, hR_A, hA_A, hA_I, hA_L, hA_R, w1, addH], ⟨c1, ?_, ?_, ?_, ?_, nd'⟩, ?_, ((((M37.R3 (by omega)).trans (M37.R3 (by omega))).trans (M37.R3 (by omega))).trans (M37.R3 (by omega))).trans m37_add, ?_, ?_, ?_⟩
    · simp [aH_C, aH_3, aH_0, aH_1, aH_7, aH_w, aH_s, aH_I, hR_R, hI_R, hC_R, c2]
    · simp [aH_C, aH_3, aH_0, aH_1, aH_7, aH_w, aH_s, aH_I, hR_R, hI_R, hC_R]
    · simp [aH_C, aH_3, aH_0, aH_1, aH_7, aH_w, aH_s, aH_I, hR_R, hI_R, hC_R, hsz]
    · refine seg_app.mpr ⟨seg_app.mpr ⟨seg_congr (fun b hb => ?_) v1, w1, ?_, ?_, ?_, trivial⟩, ha, ?_, ?_, ?_, trivial⟩
      · have h1 := ha1 b hb
        have h2 := hx1 b hb
        simp [aH_C, aH_3, aH_0, aH_1, aH_7, aH_w, aH_s, aH_I, hR_R, hI_R, hC_R, h1, h2]
      · simp [aH_C, aH_3, aH_0, aH_1, aH_7, aH_w, aH_s, aH_I, hR_R, hI_R, hC_R, hxa, w2]
      · simp [aH_C, aH_3, aH_0, aH_1, aH_7, aH_w, aH_s, aH_I, hR_R, hI_R, hC_R, hxa, w3]
      · simp [aH_C, aH_3, aH_0, aH_1, aH_7, aH_w, aH_s, aH_I, hR_R, hI_R, hC_R, hxa]
      · simp [aH_C, aH_3, aH_0, aH_1, aH_7, aH_w, aH_s, aH_I, hR_R, hI_R, hC_R, Ne.symm hxa]
      · simp [aH_C, aH_3, aH_0, aH_1, aH_7, aH_w, aH_s, aH_I, hR_R, hI_R, hC_R, Ne.symm hxa]
      · simp [aH_C, aH_3, aH_0, aH_1, aH_7, aH_w, aH_s, aH_I, hR_R, hI_R, hC_R, Ne.symm hxa]
    · simp [aH_C, aH_3, aH_0, aH_1, aH_7, aH_w, aH_s, aH_I, hR_R, hI_R, hC_R]
    · intro k b hb
      have hb1 : b ≠ a := fun z => hb (by simp [z])
      have hb2 : b ≠ x := fun z => hb (by simp [z])
      simp [aH_C, aH_3, aH_0, aH_1, aH_7, aH_w, aH_s, aH_I, hR_R, hI_R, hC_R, hb1, hb2]
    · intro k b hb
      simp [aH_C, aH_3, aH_0, aH_1, aH_7, aH_w, aH_s, aH_I, hR_R, hI_R, hC_R, hb]
    · intro k b hb
      simp [aH_C, aH_3, aH_0, aH_1, aH_7, aH_w, aH_s, aH_I, hR_R, hI_R, hC_R, hb]
