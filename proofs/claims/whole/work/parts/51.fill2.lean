/-! AN ENTRY FILLED -/
theorem sw_upd {wt wt' : Nat → Int32} {e : Nat} : ∀ (l : List Nat), l.Nodup → (∀ d, d ∈ l → d ≠ e → wt' d = wt d) → sw wt' l = if e ∈ l then sw wt l + (wt' e - wt e) else sw wt l := by
  intro l
  induction l with
  | nil => intro _ _; simp [sw]
  | cons a l ih =>
    intro hn h
    have hn' := List.nodup_cons.mp hn
    have := ih hn'.2 (fun d hd => h d (List.mem_cons_of_mem _ hd))
    by_cases ha : a = e
    · subst ha
      rw [if_neg hn'.1] at this
      simp only [sw, this, List.mem_cons_self, if_true]
      have e1 : wt a + sw wt l + (wt' a - wt a) = wt' a + sw wt l := by
        rw [Int32.add_comm (wt a), Int32.add_assoc, Int32.add_comm (wt a), Int32.sub_add_cancel, Int32.add_comm]
      exact e1.symm
    · have e1 := h a List.mem_cons_self ha
      simp only [sw, this, e1]
      have e2 : e ∈ a :: l ↔ e ∈ l := by
        simp only [List.mem_cons]
        exact ⟨fun q => q.elim (fun q => absurd q.symm ha) id, Or.inr⟩
      by_cases hm : e ∈ l
      · rw [if_pos hm, if_pos (e2.mpr hm), Int32.add_assoc]
      · rw [if_neg hm, if_neg (fun q => hm (e2.mp q))]
section FL
variable {b σ σ' : Hp} {m c n Q z N B B' t : Nat} {o : Nat × (Nat → Int32)} {es : Nat → Nat} {W : Nat → Int32} {s s' : RS} {L L' : Nat → List Nat} {wt : Nat → Int32}
/-- all but rooms, notes and tasks; of the entry e only what a new one has -/
def RestX (c : Nat) (o : Nat × (Nat → Int32)) (es : Nat → Nat) (n Q z : Nat) (W : Nat → Int32) (σ : Hp) (s : RS) (e : Nat) : Prop := SK σ c ∧ SCa σ c s ∧ SCb σ c s ∧ (∀ d, d < n → hp_I σ 3 0 (es d) = ga s 11 d ∧ hp_I σ 3 3 (es d) = ga s 16 d ∧ hp_I σ 3 7 (es d) = (if ga s 20 d = 0 then 1 else 0) ∧ (d ≠ e → hp_I σ 3 1 (es d) = ga s 12 d ∧ hp_L σ 3 5 (es d) = en s d ∧ hp_L σ 3 4 (es d) = fe s d ∧ hp_I σ 3 6 (es d) = lbt s d)) ∧ MP σ c es s ∧ WY σ c es n s ∧ LGt σ c s ∧ CTT σ c s z W ∧ Out σ c o.1 ∧ AD σ c es n ∧ ((∀ d, d < n → ∃ k, k < 1000 ∧ ga s 11 d = nI k) ∧ (∀ d, d < n → d ≠ e → ∃ w, 1 ≤ w ∧ w ≤ 1000 ∧ ga s 13 d = nI w) ∧ (∀ k, k < 1000 → ga s 6 k = -1 ∨ ∃ d, d < n ∧ ga s 6 k = nI d ∧ ga s 11 d = nI k ∧ ga s 20 d = 1) ∧ (∀ d, d < n → ga s 20 d = 0 ∨ ga s 20 d = 1) ∧ (∀ d k, d < n → k < 1000 → ga s 20 d = 1 → ga s 11 d = nI k → ga s 6 k = nI d) ∧ (∀ d, d < n → d ≠ e → fe s d ≤ 4611686018427387904)) ∧ WFb s n Q o.2
theorem Rest.x (h : Rest c o es n Q z W σ s) (e : Nat) : RestX c o es n Q z W σ s e := by
  obtain ⟨h1, h2, h2b, h3, h4, h5, h6, h7, h8, h9, h10, h11⟩ := h
  refine ⟨h1, h2, h2b, fun d hd => ?_, h4, h5, h6, h7, h8, h9, ⟨h10.1, fun d hd _ => h10.2.1 d hd, h10.2.2.1, h10.2.2.2.1, h10.2.2.2.2.1, fun d hd _ => h10.2.2.2.2.2 d hd⟩, h11⟩
  obtain ⟨a1, a2, a3, a4, a5, a6, a7⟩ := h3 d hd
  exact ⟨a1, a3, a4, fun _ => ⟨a2, a5, a6, a7⟩⟩
/-- the reference's entry filled -/
def layS (s : RS) (e : Nat) (v w x : Int32) : RS := ua (ub (ub (ua (ua (ua s 12 e v) 13 e w) 14 e x) 17 e (gl s 5)) 18 e (gl s 5)) 16 e (ga s 16 e + 1)
theorem lay_run (hb : hp_C b m = some 11) {e : Nat} (he : e < 1100) {v w x f : Int32} : f_M_lay_119 N (some m) v w x (nI e) f (rh b m s) = if f = 0 then f_M_lay_188 N (nI e) f 0 (some m) (rh b m (layS s e v w x)) else f_M_lay_188 N (nI e) f 1 (some m) (rh b m (layS s e v w x)) := by
  have hie : ix_ (nI e) 1100 = some e := ixN he (by decide)
  simp [f_M_lay_119, ldRr hb, ldLr hb, as12, as13, as14, as16, al16, as17, as18, hie, giui, giul, giua, giub, glui, glul, glua, glub, gaui, gaul, gaua, gaub, gbui, gbul, gbua, gbub, layS]
/-- the class's entry: its life begun -/
def begH (σ : Hp) (a : Nat) (F : Int64) (l : Int32) (E : Int64) : Hp := up_L (up_I (up_L σ 3 4 a F) 3 6 a l) 3 5 a E
theorem begin_run {a : Nat} (ha : hp_C σ a = some 3) (hl : hp_C σ (c + 14) = some 4) {x wr tc : Int32} {T : Int64} (h0 : hp_I σ 4 0 (c + 14) = wr) (h1 : hp_I σ 4 1 (c + 14) = tc) (h2 : hp_L σ 4 2 (c + 14) = T) : f_Li_begin (some (c + 14)) (some a) x σ = some (begH σ a (if 0 < x then T + x.toInt64 else if 0 < wr then T + wr.toInt64 else 4611686018427387904) (if 0 < x then 0 else if 0 < tc then 1 else 0) (if (if 0 < x then (0 : Int32) else if 0 < tc then 1 else 0) = 0 then (if 0 < x then T + x.toInt64 else if 0 < wr then T + wr.toInt64 else 4611686018427387904) else lmin_ (if 0 < x then T + x.toInt64 else if 0 < wr then T + wr.toInt64 else 4611686018427387904) (T + tc.toInt64))) := by
  by_cases hx : 0 < x
  · have hx' : ¬ x ≤ 0 := Int32.not_le.mpr hx
    simp [f_Li_begin, f_Li_begin_12, f_Li_begin_31, f_Li_begin_50, f_Li_begin_51, f_Li_prolong, ldI, ldL, stL, stZ0, stZ1, isO, ha, hl, h0, h1, h2, hx, hx', hC_L, hC_I, hI_I, hI_L, hL_L, hL_I, begH]
  · have hx' : x ≤ 0 := Int32.not_lt.mp hx
    have n10 : ¬ (1 : Int32) = 0 := by decide
    by_cases hw : 0 < wr
    · have hw' : ¬ wr ≤ 0 := Int32.not_le.mpr hw
      by_cases ht : 0 < tc
      · have ht' : ¬ tc ≤ 0 := Int32.not_le.mpr ht
        simp [f_Li_begin, f_Li_begin_12, f_Li_begin_31, f_Li_begin_50, f_Li_begin_51, f_Li_prolong, ldI, ldL, stL, stZ0, stZ1, isO, ha, hl, h0, h1, h2, hx, hx', hw, hw', ht, ht', hC_L, hC_I, hI_I, hI_L, hL_L, hL_I, begH]
      · have ht' : tc ≤ 0 := Int32.not_lt.mp ht
        simp [f_Li_begin, f_Li_begin_12, f_Li_begin_31, f_Li_begin_50, f_Li_begin_51, f_Li_prolong, ldI, ldL, stL, stZ0, stZ1, isO, ha, hl, h0, h1, h2, hx, hx', hw, hw', ht, ht', hC_L, hC_I, hI_I, hI_L, hL_L, hL_I, begH]
    · have hw' : wr ≤ 0 := Int32.not_lt.mp hw
      by_cases ht : 0 < tc
      · have ht' : ¬ tc ≤ 0 := Int32.not_le.mpr ht
        simp [f_Li_begin, f_Li_begin_12, f_Li_begin_31, f_Li_begin_50, f_Li_begin_51, f_Li_prolong, ldI, ldL, stL, stZ0, stZ1, isO, ha, hl, h0, h1, h2, hx, hx', hw, hw', ht, ht', hC_L, hC_I, hI_I, hI_L, hL_L, hL_I, begH]
      · have ht' : tc ≤ 0 := Int32.not_lt.mp ht
        simp [f_Li_begin, f_Li_begin_12, f_Li_begin_31, f_Li_begin_50, f_Li_begin_51, f_Li_prolong, ldI, ldL, stL, stZ0, stZ1, isO, ha, hl, h0, h1, h2, hx, hx', hw, hw', ht, ht', hC_L, hC_I, hI_I, hI_L, hL_L, hL_I, begH]
theorem posI_lt {w : Int32} : (0 < posI w) ↔ 0 < w := by
  unfold posI
  by_cases h : 0 ≤ w
  · rw [if_pos h]
  · rw [if_neg h]
    exact ⟨fun q => absurd q (by decide), fun q => absurd (Int32.le_of_lt q) h⟩
theorem posI_eq {w : Int32} (h : 0 < w) : posI w = w := by
  unfold posI; rw [if_pos (Int32.le_of_lt h)]
/-- no end lies beyond NEVER -/
theorem end_le {T : Int64} {x : Int32} (h0 : 0 ≤ T.toInt) (h1 : T.toInt ≤ 1099511627776) : T + x.toInt64 ≤ 4611686018427387904 := by
  rw [Int64.le_iff_toInt_le, Int64.toInt_add, Int32.toInt_toInt64]
  have h2 := x.toInt_lt
  have h3 := x.le_toInt
  have e : (4611686018427387904 : Int64).toInt = 4611686018427387904 := by decide
  rw [e, Int.bmod_eq_of_le (by omega) (by omega)]
  omega
/-- what filling leaves alone -/
def MF (σ σ' : Hp) : Prop := hp_N σ' = hp_N σ ∧ (∀ a, hp_C σ' a = hp_C σ a) ∧ (∀ x k a, hp_R σ' x k a = hp_R σ x k a) ∧ (∀ x k a, x ≠ 3 → hp_L σ' x k a = hp_L σ x k a) ∧ (∀ x k a, x ≠ 3 → x ≠ 7 → hp_I σ' x k a = hp_I σ x k a) ∧ ∀ a, hp_A σ' a = hp_A σ a
end FL
