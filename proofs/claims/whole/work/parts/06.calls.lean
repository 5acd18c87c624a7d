theorem ktys {c k : Nat} (h : c < 12) (hk : k < kN c) : kY c k = .int ∨ kY c k = .boolean ∨ kY c k = .long ∨ isR (kY c k) = true := by
  have key : ∀ c, c < 12 → ∀ k, k < kN c → (kY c k = .int ∨ kY c k = .boolean ∨ kY c k = .long ∨ isR (kY c k) = true) := by decide +kernel
  exact key c h k hk
def imax_ (x y : Int32) : Int32 := if x < y then y else x
def imin_ (x y : Int32) : Int32 := if y < x then y else x
def iabs_ (x : Int32) : Int32 := if 0 ≤ x then x else 0 - x
def lmin_ (x y : Int64) : Int64 := if y < x then y else x
section RX
variable {p : Program} {l : Launch} {e : Env} {R : Room} {s : State} {m : MethodId} {args : Array Value} {below : List Frame} {meth : Method} {c : Code} {cc : ByteArray} {nL : Nat} {A : Nat → Prop} {DD : DT} {own : String} {Q : State → Prop} {kc ks pc : Nat} {σ : Hp} {lv : List (Nat × TV)} {st : List TV}

theorem r_al_I (X : CX p s m args c cc nL A DD own) {r : Option Nat} {i : Int32} {x : Int32} (hg : al_I σ 0 r i = some x) (hd : decode cc pc = .ok (.iaload, 1)) (kk : GG p l e R s m args below meth c nL A DD Q kc ks σ (pc + 1) (lv) (tI x :: st)) : GG p l e R s m args below meth c nL A DD Q kc ks σ (pc) (lv) (tI i :: tR r :: st) := by
  intro H locs ls h1 h2 h3
  obtain ⟨⟨a, n, f⟩, ha, hx⟩ := obind hg
  obtain ⟨rfl, hc⟩ := ar_I_spec ha
  obtain ⟨j, hj, rfl⟩ := omap hx
  obtain ⟨hin, rfl⟩ := ix_spec hj
  obtain ⟨g1, q, g2, g3⟩ := h1.2.2 a 0 _ hc
  cases g2
  exact va_iald X.1 X.2.1 X.2.2.2.2.2.1.1 (D := DD.1) (cl := kcl) (ws := [(a, .inl (DD.2.1 0, n, .inl f))]) (fun k q hk => by
    have hz : k < 1 := (List.getElem?_eq_some_iff.mp hk).1
    rw [show k = 0 by omega] at hk
    cases hk
    exact g3) 0 0 rfl rfl hin hd (kk H locs ls h1 h2 h3)
theorem r_al_Z (X : CX p s m args c cc nL A DD own) {r : Option Nat} {i : Int32} {x : Int32} (hg : al_I σ 2 r i = some x) (hd : decode cc pc = .ok (.baload, 1)) (kk : GG p l e R s m args below meth c nL A DD Q kc ks σ (pc + 1) (lv) (tI x :: st)) : GG p l e R s m args below meth c nL A DD Q kc ks σ (pc) (lv) (tI i :: tR r :: st) := by
  intro H locs ls h1 h2 h3
  obtain ⟨⟨a, n, f⟩, ha, hx⟩ := obind hg
  obtain ⟨rfl, hc⟩ := ar_I_spec ha
  obtain ⟨j, hj, rfl⟩ := omap hx
  obtain ⟨hin, rfl⟩ := ix_spec hj
  obtain ⟨g1, q, g2, g3⟩ := h1.2.2 a 2 _ hc
  cases g2
  exact va_zald X.1 X.2.1 X.2.2.2.2.2.1.1 (D := DD.1) (cl := kcl) (ws := [(a, .inl (DD.2.1 2, n, .inl f))]) (fun k q hk => by
    have hz : k < 1 := (List.getElem?_eq_some_iff.mp hk).1
    rw [show k = 0 by omega] at hk
    cases hk
    exact g3) 0 2 rfl rfl hin hd (kk H locs ls h1 h2 h3)
theorem r_al_L (X : CX p s m args c cc nL A DD own) {r : Option Nat} {i : Int32} {x : Int64} (hg : al_L σ 1 r i = some x) (hd : decode cc pc = .ok (.laload, 1)) (kk : GG p l e R s m args below meth c nL A DD Q kc ks σ (pc + 1) (lv) (tL x :: st)) : GG p l e R s m args below meth c nL A DD Q kc ks σ (pc) (lv) (tI i :: tR r :: st) := by
  intro H locs ls h1 h2 h3
  obtain ⟨⟨a, n, f⟩, ha, hx⟩ := obind hg
  obtain ⟨rfl, hc⟩ := ar_L_spec ha
  obtain ⟨j, hj, rfl⟩ := omap hx
  obtain ⟨hin, rfl⟩ := ix_spec hj
  obtain ⟨g1, q, g2, g3⟩ := h1.2.2 a 1 _ hc
  cases g2
  exact va_lald X.1 X.2.1 X.2.2.2.2.2.1.1 (D := DD.1) (cl := kcl) (ws := [(a, .inl (DD.2.1 1, n, .inr (.inl f)))]) (fun k q hk => by
    have hz : k < 1 := (List.getElem?_eq_some_iff.mp hk).1
    rw [show k = 0 by omega] at hk
    cases hk
    exact g3) 0 1 rfl rfl hin hd (kk H locs ls h1 h2 h3)
theorem r_al_E (X : CX p s m args c cc nL A DD own) {r : Option Nat} {i : Int32} {x : Option Nat} (hg : al_R σ 3 r i = some x) (hd : decode cc pc = .ok (.aaload, 1)) (kk : GG p l e R s m args below meth c nL A DD Q kc ks σ (pc + 1) (lv) (tR x :: st)) : GG p l e R s m args below meth c nL A DD Q kc ks σ (pc) (lv) (tI i :: tR r :: st) := by
  intro H locs ls h1 h2 h3
  obtain ⟨⟨a, n, f⟩, ha, hx⟩ := obind hg
  obtain ⟨rfl, hc⟩ := ar_R_spec ha
  obtain ⟨j, hj, rfl⟩ := omap hx
  obtain ⟨hin, rfl⟩ := ix_spec hj
  obtain ⟨g1, q, g2, g3⟩ := h1.2.2 a 3 _ hc
  cases g2
  exact va_aldq X.1 X.2.1 X.2.2.2.2.2.1.1 (D := DD.1) (cl := kcl) (ws := [(a, .inl (DD.2.1 3, n, .inr (.inr (.inr (.inr f)))))]) (fun k q hk => by
    have hz : k < 1 := (List.getElem?_eq_some_iff.mp hk).1
    rw [show k = 0 by omega] at hk
    cases hk
    exact g3) 0 3 rfl rfl hin hd (kk H locs ls h1 h2 h3)
theorem r_al_W (X : CX p s m args c cc nL A DD own) {r : Option Nat} {i : Int32} {x : Option Nat} (hg : al_R σ 4 r i = some x) (hd : decode cc pc = .ok (.aaload, 1)) (kk : GG p l e R s m args below meth c nL A DD Q kc ks σ (pc + 1) (lv) (tR x :: st)) : GG p l e R s m args below meth c nL A DD Q kc ks σ (pc) (lv) (tI i :: tR r :: st) := by
  intro H locs ls h1 h2 h3
  obtain ⟨⟨a, n, f⟩, ha, hx⟩ := obind hg
  obtain ⟨rfl, hc⟩ := ar_R_spec ha
  obtain ⟨j, hj, rfl⟩ := omap hx
  obtain ⟨hin, rfl⟩ := ix_spec hj
  obtain ⟨g1, q, g2, g3⟩ := h1.2.2 a 4 _ hc
  cases g2
  exact va_aldq X.1 X.2.1 X.2.2.2.2.2.1.1 (D := DD.1) (cl := kcl) (ws := [(a, .inl (DD.2.1 4, n, .inr (.inr (.inr (.inr f)))))]) (fun k q hk => by
    have hz : k < 1 := (List.getElem?_eq_some_iff.mp hk).1
    rw [show k = 0 by omega] at hk
    cases hk
    exact g3) 0 4 rfl rfl hin hd (kk H locs ls h1 h2 h3)
theorem r_al_N (X : CX p s m args c cc nL A DD own) {r : Option Nat} {x : Int32} (hg : al_N σ r = some x) (hd : decode cc pc = .ok (.arraylength, 1)) (kk : GG p l e R s m args below meth c nL A DD Q kc ks σ (pc + 1) (lv) (tI x :: st)) : GG p l e R s m args below meth c nL A DD Q kc ks σ (pc) (lv) (tR r :: st) := by
  intro H locs ls h1 h2 h3
  cases r with
  | none => cases hg
  | some a =>
    simp only [al_N] at hg
    split at hg
    · rename_i t n z hc
      cases hg
      obtain ⟨g1, q, g2, g3⟩ := h1.2.2 a t _ hc
      exact va_alen X.1 X.2.1 X.2.2.2.2.2.1.1 (D := DD.1) (cl := kcl) (ws := [(a, .inl (q.1, n, z))]) (fun k q hk => by
        have hz : k < 1 := (List.getElem?_eq_some_iff.mp hk).1
        rw [show k = 0 by omega] at hk
        cases hk
        exact g3) 0 t rfl (ty := q.2) g2 rfl hd (kk H locs ls h1 h2 h3)
    · cases hg
theorem r_as_I (X : CX p s m args c cc nL A DD own) {r : Option Nat} {i : Int32} {x : Int32} {σ' : Hp} (hg : as_I σ 0 r i x = some σ') (hd : decode cc pc = .ok (.iastore, 1)) (kk : GG p l e R s m args below meth c nL A DD Q kc ks (σ') (pc + 1) (lv) (st)) : GG p l e R s m args below meth c nL A DD Q kc ks σ (pc) (lv) (tI x :: tI i :: tR r :: st) := by
  intro H locs ls h1 h2 h3
  obtain ⟨⟨a, n, f⟩, ha, hx⟩ := obind hg
  obtain ⟨rfl, hc⟩ := ar_I_spec ha
  obtain ⟨j, hj, rfl⟩ := omap hx
  obtain ⟨hin, rfl⟩ := ix_spec hj
  obtain ⟨g1, q, g2, g3⟩ := h1.2.2 a 0 _ hc
  cases g2
  refine W.iast X.1 X.2.1 g3 ((X.2.2.2.2.2.1.1.2 0 _ rfl).1 n (fun j => .int (f j))) (fun q => by cases q) (by show ¬ (i < 0 ∨ (arrV _ _ _).slots.size ≤ _); rw [arrV_size]; exact hin) rfl rfl hd fun H1 e z oq => ?_
  refine kk H1 _ ls (h1.arr hc rfl z oq ?_) (h2.put z oq g1) h3
  rw [e]
  rw [vp_cell_i, vp_cell_i, arrV_store]
  congr 2
  funext q
  by_cases hq : q = i.toNatClampNeg
  · subst hq
    simp [updV, va_up]
  · simp [updV, va_up, hq]
theorem r_as_L (X : CX p s m args c cc nL A DD own) {r : Option Nat} {i : Int32} {x : Int64} {σ' : Hp} (hg : as_L σ 1 r i x = some σ') (hd : decode cc pc = .ok (.lastore, 1)) (kk : GG p l e R s m args below meth c nL A DD Q kc ks (σ') (pc + 1) (lv) (st)) : GG p l e R s m args below meth c nL A DD Q kc ks σ (pc) (lv) (tL x :: tI i :: tR r :: st) := by
  intro H locs ls h1 h2 h3
  obtain ⟨⟨a, n, f⟩, ha, hx⟩ := obind hg
  obtain ⟨rfl, hc⟩ := ar_L_spec ha
  obtain ⟨j, hj, rfl⟩ := omap hx
  obtain ⟨hin, rfl⟩ := ix_spec hj
  obtain ⟨g1, q, g2, g3⟩ := h1.2.2 a 1 _ hc
  cases g2
  refine W.last X.1 X.2.1 g3 ((X.2.2.2.2.2.1.1.2 1 _ rfl).1 n (fun j => .long (f j))) (fun q => by cases q) (by show ¬ (i < 0 ∨ (arrV _ _ _).slots.size ≤ _); rw [arrV_size]; exact hin) rfl rfl hd fun H1 e z oq => ?_
  refine kk H1 _ ls (h1.arr hc rfl z oq ?_) (h2.put z oq g1) h3
  rw [e]
  rw [vp_cell_l, vp_cell_l, arrV_store]
  congr 2
  funext q
  by_cases hq : q = i.toNatClampNeg
  · subst hq
    simp [updV, va_up]
  · simp [updV, va_up, hq]
theorem r_as_Z (X : CX p s m args c cc nL A DD own) {r : Option Nat} {i : Int32} {x : Int32} {σ' : Hp} (hg : as_Z σ 2 r i x = some σ') (hd : decode cc pc = .ok (.bastore, 1)) (kk : GG p l e R s m args below meth c nL A DD Q kc ks (σ') (pc + 1) (lv) (st)) : GG p l e R s m args below meth c nL A DD Q kc ks σ (pc) (lv) (tI x :: tI i :: tR r :: st) := by
  intro H locs ls h1 h2 h3
  have hz : x = 0 ∨ x = 1 := by
    unfold as_Z at hg
    split at hg
    · assumption
    · cases hg
  have hg : as_I σ 2 r i x = some σ' := by
    unfold as_Z at hg
    rw [if_pos hz] at hg
    exact hg
  have hnar : narrow .boolean (.int x) = .int x := by rcases hz with rfl | rfl <;> rfl
  obtain ⟨⟨a, n, f⟩, ha, hx⟩ := obind hg
  obtain ⟨rfl, hc⟩ := ar_I_spec ha
  obtain ⟨j, hj, rfl⟩ := omap hx
  obtain ⟨hin, rfl⟩ := ix_spec hj
  obtain ⟨g1, q, g2, g3⟩ := h1.2.2 a 2 _ hc
  cases g2
  refine W.zast X.1 X.2.1 g3 ((X.2.2.2.2.2.1.1.2 2 _ rfl).1 n (fun j => .int (f j))) (fun q => by cases q) (by show ¬ (i < 0 ∨ (arrV _ _ _).slots.size ≤ _); rw [arrV_size]; exact hin) rfl rfl hd fun H1 e z oq => ?_
  refine kk H1 _ ls (h1.arr hc rfl z oq ?_) (h2.put z oq g1) h3
  rw [e]
  rw [vp_cell_i, vp_cell_i, arrV_store]
  congr 2
  funext q
  by_cases hq : q = i.toNatClampNeg
  · subst hq
    simp [updV, va_up, hnar]
  · simp [updV, va_up, hq]
theorem r_as_E (X : CX p s m args c cc nL A DD own) {r : Option Nat} {i : Int32} {x : Option Nat} {σ' : Hp} (hg : as_R σ 3 3 r i x = some σ') (hd : decode cc pc = .ok (.aastore, 1)) (kk : GG p l e R s m args below meth c nL A DD Q kc ks (σ') (pc + 1) (lv) (st)) : GG p l e R s m args below meth c nL A DD Q kc ks σ (pc) (lv) (tR x :: tI i :: tR r :: st) := by
  intro H locs ls h1 h2 h3
  have hz : x = none ∨ is_O σ x 3 = x := by
    unfold as_R at hg
    split at hg
    · assumption
    · cases hg
  have hg : (ar_R σ 3 r).bind (fun q => (ix_ i q.2.1).map fun j => up_A σ q.1 (3, q.2.1, .inr (.inr (.inr (.inr (va_up q.2.2 j x)))))) = some σ' := by
    unfold as_R at hg
    rw [if_pos hz] at hg
    exact hg
  obtain ⟨⟨a, n, f⟩, ha, hx⟩ := obind hg
  obtain ⟨rfl, hc⟩ := ar_R_spec ha
  obtain ⟨j, hj, rfl⟩ := omap hx
  obtain ⟨hin, rfl⟩ := ix_spec hj
  obtain ⟨g1, q, g2, g3⟩ := h1.2.2 a 3 _ hc
  cases g2
  have hK := X.2.2.2.2.2.1.1
  have fin : ∀ (H1 : Heap), H1[a]? = some ((arrV (DD.2.1 3) n (fun j => va_rf (f j))).setSlot i.toNatClampNeg (va_rf x)) → H1.size = H.size → (∀ q, q ≠ a → H1[q]? = H[q]?) → ∀ lc, W p l e R s m args below meth c H1 (locs ++ [⟨a, lc⟩]) kc ks Q (F0 m (pc + 1) ls (st.map tv)) := by
    intro H1 e z oq lc
    refine kk H1 _ ls (h1.arr hc rfl z oq ?_) (h2.put z oq g1) h3
    rw [e]
    rw [vp_cell_q, arrV_store]
    congr 2
    funext q
    by_cases hq : q = i.toNatClampNeg
    · subst hq
      simp [updV, va_up]
    · simp [updV, va_up, hq]
  cases x with
  | none => exact va_WaastN (C := "WindowCache$Entry") X.1 X.2.1 g3 ((hK.2 3 _ rfl).1 n (fun j => va_rf (f j))) (fun h => by cases h) (by show ¬ (i < 0 ∨ (arrV _ _ _).slots.size ≤ _); rw [arrV_size]; exact hin) rfl rfl hd fun H1 e z oq => fin H1 e z oq _
  | some v =>
    rcases hz with hz | hz
    · cases hz
    obtain ⟨-, hcv⟩ := is_O_spec hz
    obtain ⟨w1, w2, w3, cellV, v1, v2, v3, -⟩ := h1.2.1 v 3 hcv
    have hcls := (hK.1 3 _ (kcl_at (by decide))).2
    obtain ⟨kA, comp, k1, k2, k3, -⟩ := (hK.2 3 _ rfl).2
    have hcomp : comp = DD.1.1 3 := Option.some.inj (k3.symm.trans hcls.1)
    subst hcomp
    obtain ⟨kC, hkC, -⟩ := hcls.2
    have hlt : i.toNatClampNeg < n := Nat.not_le.mp fun q => hin (Or.inr q)
    have h0 : ¬ i < 0 := fun q => hin (Or.inl q)
    exact W.aast X.1 X.2.1 g3 (fun q h => by cases h) (fun h => by cases h) k1 k2 rfl hkC ⟨h0, by show _ < (arrV _ _ _).slots.size; rw [arrV_size]; exact hlt⟩ v1 (fun q h => by rw [v3] at h; cases h) (by rw [v2]; exact hkC) (by rw [v2]; exact va_assign hcls) rfl rfl hd fun H1 e z oq => fin H1 e z oq _
theorem r_as_W (X : CX p s m args c cc nL A DD own) {r : Option Nat} {i : Int32} {x : Option Nat} {σ' : Hp} (hg : as_R σ 4 10 r i x = some σ') (hd : decode cc pc = .ok (.aastore, 1)) (kk : GG p l e R s m args below meth c nL A DD Q kc ks (σ') (pc + 1) (lv) (st)) : GG p l e R s m args below meth c nL A DD Q kc ks σ (pc) (lv) (tR x :: tI i :: tR r :: st) := by
  intro H locs ls h1 h2 h3
  have hz : x = none ∨ is_O σ x 10 = x := by
    unfold as_R at hg
    split at hg
    · assumption
    · cases hg
  have hg : (ar_R σ 4 r).bind (fun q => (ix_ i q.2.1).map fun j => up_A σ q.1 (4, q.2.1, .inr (.inr (.inr (.inr (va_up q.2.2 j x)))))) = some σ' := by
    unfold as_R at hg
    rw [if_pos hz] at hg
    exact hg
  obtain ⟨⟨a, n, f⟩, ha, hx⟩ := obind hg
  obtain ⟨rfl, hc⟩ := ar_R_spec ha
  obtain ⟨j, hj, rfl⟩ := omap hx
  obtain ⟨hin, rfl⟩ := ix_spec hj
  obtain ⟨g1, q, g2, g3⟩ := h1.2.2 a 4 _ hc
  cases g2
  have hK := X.2.2.2.2.2.1.1
  have fin : ∀ (H1 : Heap), H1[a]? = some ((arrV (DD.2.1 4) n (fun j => va_rf (f j))).setSlot i.toNatClampNeg (va_rf x)) → H1.size = H.size → (∀ q, q ≠ a → H1[q]? = H[q]?) → ∀ lc, W p l e R s m args below meth c H1 (locs ++ [⟨a, lc⟩]) kc ks Q (F0 m (pc + 1) ls (st.map tv)) := by
    intro H1 e z oq lc
    refine kk H1 _ ls (h1.arr hc rfl z oq ?_) (h2.put z oq g1) h3
    rw [e]
    rw [vp_cell_q, arrV_store]
    congr 2
    funext q
    by_cases hq : q = i.toNatClampNeg
    · subst hq
      simp [updV, va_up]
    · simp [updV, va_up, hq]
  cases x with
  | none => exact va_WaastN (C := "WindowCache$Way") X.1 X.2.1 g3 ((hK.2 4 _ rfl).1 n (fun j => va_rf (f j))) (fun h => by cases h) (by show ¬ (i < 0 ∨ (arrV _ _ _).slots.size ≤ _); rw [arrV_size]; exact hin) rfl rfl hd fun H1 e z oq => fin H1 e z oq _
  | some v =>
    rcases hz with hz | hz
    · cases hz
    obtain ⟨-, hcv⟩ := is_O_spec hz
    obtain ⟨w1, w2, w3, cellV, v1, v2, v3, -⟩ := h1.2.1 v 10 hcv
    have hcls := (hK.1 10 _ (kcl_at (by decide))).2
    obtain ⟨kA, comp, k1, k2, k3, -⟩ := (hK.2 4 _ rfl).2
    have hcomp : comp = DD.1.1 10 := Option.some.inj (k3.symm.trans hcls.1)
    subst hcomp
    obtain ⟨kC, hkC, -⟩ := hcls.2
    have hlt : i.toNatClampNeg < n := Nat.not_le.mp fun q => hin (Or.inr q)
    have h0 : ¬ i < 0 := fun q => hin (Or.inl q)
    exact W.aast X.1 X.2.1 g3 (fun q h => by cases h) (fun h => by cases h) k1 k2 rfl hkC ⟨h0, by show _ < (arrV _ _ _).slots.size; rw [arrV_size]; exact hlt⟩ v1 (fun q h => by rw [v3] at h; cases h) (by rw [v2]; exact hkC) (by rw [v2]; exact va_assign hcls) rfl rfl hd fun H1 e z oq => fin H1 e z oq _
theorem r_odd (X : CX p s m args c cc nL A DD own) {index : Nat} (hw : Cond.fieldLink own index "WindowCache$Counts" "ODD" "[I" ∈ lw_tbl) (hd : decode cc pc = .ok (.getstatic index, 3)) (kk : GG p l e R s m args below meth c nL A DD Q kc ks σ (pc + 3) (lv) (tR (some DD.2.2) :: st)) : GG p l e R s m args below meth c nL A DD Q kc ks σ (pc) (lv) (st) := fun H locs ls h1 h2 h3 => va_gets X.1 X.2.1 X.2.2.2.2.2.1.2.2.2.2.1 h2 X.2.2.2.1 (X.2.2.2.2.1 _ hw rfl) (fun _ h => h) hd (kk H locs ls h1 h2 h3)
theorem r_oddI (X : CX p s m args c cc nL A DD own) {i : Int32} {j : Nat} (hg : ix_ i 4 = some j) (hd : decode cc pc = .ok (.iaload, 1)) (kk : GG p l e R s m args below meth c nL A DD Q kc ks σ (pc + 1) (lv) (tI (oddn j) :: st)) : GG p l e R s m args below meth c nL A DD Q kc ks σ (pc) (lv) (tI i :: tR (some DD.2.2) :: st) := by
  intro H locs ls h1 h2 h3
  obtain ⟨hin, rfl⟩ := ix_spec hg
  exact va_ti X.1 X.2.1 X.2.2.2.2.2.1.2.2.2.2.2.1 h2 hin rfl hd (kk H locs ls h1 h2 h3)
theorem r_new (X : CX p s m args c cc nL A DD own) {ci index : Nat} (hci : ci < 12) (hw : Cond.classLink own index (kR ci) ∈ lw_tbl) (hw2 : Cond.instantiable (kR ci) (kN ci) ∈ lw_tbl) (hw3 : Cond.initialized (kR ci) ∈ lw_tbl) (hkc : kc + 1 ≤ R.cells) (hks : ks + kN ci ≤ R.slots) (hd : decode cc pc = .ok (.new index, 3)) (kk : GG p l e R s m args below meth c nL A DD Q (kc + 1) (ks + kN ci) (nw_O σ ci) (pc + 3) (lv) (tR (some (hp_N σ)) :: st)) : GG p l e R s m args below meth c nL A DD Q kc ks σ (pc) (lv) (st) := by
  intro H locs ls h1 h2 h3
  have hK := X.2.2.2.2.2.1.1
  have hKn := hK.1 ci _ (kcl_at hci)
  refine W.newcK X.1 X.2.1 X.2.2.2.1 (X.2.2.2.2.1 _ hw rfl) (X.2.2.2.2.1 _ hw2 rfl) (X.2.2.2.2.1 _ hw3 rfl) rfl hd hkc hks hKn.2.1 rfl fun H1 kC hkC e1 z1 o1 => ?_
  have hA : A H.size := X.2.2.2.2.2.2 _ h2.1
  have hb := u_born (kY ci) (lays_all X.2.2.2.2.1 hci) (fun _ h => h) hKn hkC e1 (kY_ok hci)
  have hN : H.size = hp_N σ := h1.1
  have w := h1.newO hci hA z1 o1 (hb.to fun k hk => by rw [hN]; exact (fv_nwO_new (ktys hci hk)).symm)
  rw [hN]
  exact kk H1 locs ls w ⟨Nat.le_trans h2.1 (by omega), fun x q1 q2 => (o1 x (Nat.lt_of_lt_of_le q1 h2.1)).trans (h2.2.1 x q1 q2), h2.2.2⟩ h3
theorem r_newa_I (X : CX p s m args c cc nL A DD own) {n : Int32} (M : Nat) (hn : ¬ (n < 0 ∨ M < n.toNatClampNeg)) (hM : M ≤ 65536) (hkc : kc + 1 ≤ R.cells) (hks : ks + M ≤ R.slots) (hd : decode cc pc = .ok (.newarray .int, 2)) (hw : Cond.arrayClass .int ∈ lw_tbl) (kk : GG p l e R s m args below meth c nL A DD Q (kc + 1) (ks + M) (nw_A σ (0, n.toNatClampNeg, .inl (fun _ => 0))) (pc + 2) (lv) (tR (some (hp_N σ)) :: st)) : GG p l e R s m args below meth c nL A DD Q kc ks σ (pc) (lv) (tI n :: st) := by
  intro H locs ls h1 h2 h3
  have hK := X.2.2.2.2.2.1.1
  have hn0 : ¬ n < 0 := fun z => hn (Or.inl z)
  have hnM : n.toNatClampNeg ≤ M := Nat.not_lt.mp fun z => hn (Or.inr z)
  refine va_newaK X.1 X.2.1 (atype := .int) (X.2.2.2.2.1 _ hw rfl) rfl hd rfl hn0 rfl (by show n.toNatClampNeg * 4 ≤ _; omega) hkc (by omega) rfl fun H1 cA e1 z1 o1 hAr hNm => ?_
  have hA : A H.size := X.2.2.2.2.2.2 _ h2.1
  have hcA : cA = DD.2.1 0 := Option.some.inj (hNm.symm.trans (hK.2 0 _ rfl).2)
  subst hcA
  have hN : H.size = hp_N σ := h1.1
  have w := h1.newA (t := 0) (y := (n.toNatClampNeg, .inl (fun _ => 0))) hA rfl z1 o1 e1
  refine W.widen (Nat.le_refl _) (by omega : ks + n.toNatClampNeg ≤ ks + M) ?_
  show W p l e R s m args below meth c H1 locs (kc + 1) (ks + M) Q (F0 m (pc + 2) ls (.ref H.size :: st.map tv))
  rw [hN]
  exact kk H1 locs ls w ⟨Nat.le_trans h2.1 (by omega), fun x q1 q2 => (o1 x (Nat.lt_of_lt_of_le q1 h2.1)).trans (h2.2.1 x q1 q2), h2.2.2⟩ h3
theorem r_newa_L (X : CX p s m args c cc nL A DD own) {n : Int32} (M : Nat) (hn : ¬ (n < 0 ∨ M < n.toNatClampNeg)) (hM : M ≤ 65536) (hkc : kc + 1 ≤ R.cells) (hks : ks + M ≤ R.slots) (hd : decode cc pc = .ok (.newarray .long, 2)) (hw : Cond.arrayClass .long ∈ lw_tbl) (kk : GG p l e R s m args below meth c nL A DD Q (kc + 1) (ks + M) (nw_A σ (1, n.toNatClampNeg, .inr (.inl (fun _ => 0)))) (pc + 2) (lv) (tR (some (hp_N σ)) :: st)) : GG p l e R s m args below meth c nL A DD Q kc ks σ (pc) (lv) (tI n :: st) := by
  intro H locs ls h1 h2 h3
  have hK := X.2.2.2.2.2.1.1
  have hn0 : ¬ n < 0 := fun z => hn (Or.inl z)
  have hnM : n.toNatClampNeg ≤ M := Nat.not_lt.mp fun z => hn (Or.inr z)
  refine va_newaK X.1 X.2.1 (atype := .long) (X.2.2.2.2.1 _ hw rfl) rfl hd rfl hn0 rfl (by show n.toNatClampNeg * 8 ≤ _; omega) hkc (by omega) rfl fun H1 cA e1 z1 o1 hAr hNm => ?_
  have hA : A H.size := X.2.2.2.2.2.2 _ h2.1
  have hcA : cA = DD.2.1 1 := Option.some.inj (hNm.symm.trans (hK.2 1 _ rfl).2)
  subst hcA
  have hN : H.size = hp_N σ := h1.1
  have w := h1.newA (t := 1) (y := (n.toNatClampNeg, .inr (.inl (fun _ => 0)))) hA rfl z1 o1 e1
  refine W.widen (Nat.le_refl _) (by omega : ks + n.toNatClampNeg ≤ ks + M) ?_
  show W p l e R s m args below meth c H1 locs (kc + 1) (ks + M) Q (F0 m (pc + 2) ls (.ref H.size :: st.map tv))
  rw [hN]
  exact kk H1 locs ls w ⟨Nat.le_trans h2.1 (by omega), fun x q1 q2 => (o1 x (Nat.lt_of_lt_of_le q1 h2.1)).trans (h2.2.1 x q1 q2), h2.2.2⟩ h3
theorem r_newa_Z (X : CX p s m args c cc nL A DD own) {n : Int32} (M : Nat) (hn : ¬ (n < 0 ∨ M < n.toNatClampNeg)) (hM : M ≤ 65536) (hkc : kc + 1 ≤ R.cells) (hks : ks + M ≤ R.slots) (hd : decode cc pc = .ok (.newarray .boolean, 2)) (hw : Cond.arrayClass .boolean ∈ lw_tbl) (kk : GG p l e R s m args below meth c nL A DD Q (kc + 1) (ks + M) (nw_A σ (2, n.toNatClampNeg, .inl (fun _ => 0))) (pc + 2) (lv) (tR (some (hp_N σ)) :: st)) : GG p l e R s m args below meth c nL A DD Q kc ks σ (pc) (lv) (tI n :: st) := by
  intro H locs ls h1 h2 h3
  have hK := X.2.2.2.2.2.1.1
  have hn0 : ¬ n < 0 := fun z => hn (Or.inl z)
  have hnM : n.toNatClampNeg ≤ M := Nat.not_lt.mp fun z => hn (Or.inr z)
  refine va_newaK X.1 X.2.1 (atype := .boolean) (X.2.2.2.2.1 _ hw rfl) rfl hd rfl hn0 rfl (by show n.toNatClampNeg * 1 ≤ _; omega) hkc (by omega) rfl fun H1 cA e1 z1 o1 hAr hNm => ?_
  have hA : A H.size := X.2.2.2.2.2.2 _ h2.1
  have hcA : cA = DD.2.1 2 := Option.some.inj (hNm.symm.trans (hK.2 2 _ rfl).2)
  subst hcA
  have hN : H.size = hp_N σ := h1.1
  have w := h1.newA (t := 2) (y := (n.toNatClampNeg, .inl (fun _ => 0))) hA rfl z1 o1 e1
  refine W.widen (Nat.le_refl _) (by omega : ks + n.toNatClampNeg ≤ ks + M) ?_
  show W p l e R s m args below meth c H1 locs (kc + 1) (ks + M) Q (F0 m (pc + 2) ls (.ref H.size :: st.map tv))
  rw [hN]
  exact kk H1 locs ls w ⟨Nat.le_trans h2.1 (by omega), fun x q1 q2 => (o1 x (Nat.lt_of_lt_of_le q1 h2.1)).trans (h2.2.1 x q1 q2), h2.2.2⟩ h3
theorem r_newa_E (X : CX p s m args c cc nL A DD own) {n : Int32} {index : Nat} (M : Nat) (hn : ¬ (n < 0 ∨ M < n.toNatClampNeg)) (hM : M ≤ 65536) (hkc : kc + 1 ≤ R.cells) (hks : ks + M ≤ R.slots) (hd : decode cc pc = .ok (.anewarray index, 3)) (hw : Cond.classLink own index "WindowCache$Entry" ∈ lw_tbl) (kk : GG p l e R s m args below meth c nL A DD Q (kc + 1) (ks + M) (nw_A σ (3, n.toNatClampNeg, .inr (.inr (.inr (.inr (fun _ => none)))))) (pc + 3) (lv) (tR (some (hp_N σ)) :: st)) : GG p l e R s m args below meth c nL A DD Q kc ks σ (pc) (lv) (tI n :: st) := by
  intro H locs ls h1 h2 h3
  have hK := X.2.2.2.2.2.1.1
  have hn0 : ¬ n < 0 := fun z => hn (Or.inl z)
  have hnM : n.toNatClampNeg ≤ M := Nat.not_lt.mp fun z => hn (Or.inr z)
  refine W.anew X.1 X.2.1 X.2.2.2.1 (X.2.2.2.2.1 _ hw rfl) (va_AO.use X.2.2.2.2.2.1.2.2.1) rfl hd rfl hn0 (by omega) hkc (by omega) fun cA kA comp f1 f2 f3 f4 => ?_
  have hA : A H.size := X.2.2.2.2.2.2 _ h2.1
  obtain ⟨kA', comp', -, -, -, k4⟩ := (hK.2 3 _ rfl).2
  have hcA : cA = DD.2.1 3 := Option.some.inj (f1.symm.trans k4)
  subst hcA
  have hN : H.size = hp_N σ := h1.1
  generalize hH1 : H.push ({ cls := DD.2.1 3, slots := Array.replicate n.toNatClampNeg .null, vm := .none } : Cell) = H1
  have z1 : H1.size = H.size + 1 := by rw [← hH1, Array.size_push]
  have e1 : H1[H.size]? = some (arrV (DD.2.1 3) n.toNatClampNeg (fun _ => .null)) := by rw [← hH1, Array.getElem?_push_size, ← arrV_new]
  have o1 : ∀ q, q < H.size → H1[q]? = H[q]? := fun q hq => by rw [← hH1, Array.getElem?_push, if_neg (Nat.ne_of_lt hq)]
  have w := h1.newA (t := 3) (y := (n.toNatClampNeg, .inr (.inr (.inr (.inr (fun _ => none)))))) hA rfl z1 o1 e1
  refine W.widen (Nat.le_refl _) (by omega : ks + n.toNatClampNeg ≤ ks + M) ?_
  show W p l e R s m args below meth c H1 locs (kc + 1) (ks + M) Q (F0 m (pc + 3) ls (.ref H.size :: st.map tv))
  rw [hN]
  exact kk H1 locs ls w ⟨Nat.le_trans h2.1 (by omega), fun x q1 q2 => (o1 x (Nat.lt_of_lt_of_le q1 h2.1)).trans (h2.2.1 x q1 q2), h2.2.2⟩ h3
theorem r_newa_W (X : CX p s m args c cc nL A DD own) {n : Int32} {index : Nat} (M : Nat) (hn : ¬ (n < 0 ∨ M < n.toNatClampNeg)) (hM : M ≤ 65536) (hkc : kc + 1 ≤ R.cells) (hks : ks + M ≤ R.slots) (hd : decode cc pc = .ok (.anewarray index, 3)) (hw : Cond.classLink own index "WindowCache$Way" ∈ lw_tbl) (kk : GG p l e R s m args below meth c nL A DD Q (kc + 1) (ks + M) (nw_A σ (4, n.toNatClampNeg, .inr (.inr (.inr (.inr (fun _ => none)))))) (pc + 3) (lv) (tR (some (hp_N σ)) :: st)) : GG p l e R s m args below meth c nL A DD Q kc ks σ (pc) (lv) (tI n :: st) := by
  intro H locs ls h1 h2 h3
  have hK := X.2.2.2.2.2.1.1
  have hn0 : ¬ n < 0 := fun z => hn (Or.inl z)
  have hnM : n.toNatClampNeg ≤ M := Nat.not_lt.mp fun z => hn (Or.inr z)
  refine W.anew X.1 X.2.1 X.2.2.2.1 (X.2.2.2.2.1 _ hw rfl) (va_AO.use X.2.2.2.2.2.1.2.2.2.1) rfl hd rfl hn0 (by omega) hkc (by omega) fun cA kA comp f1 f2 f3 f4 => ?_
  have hA : A H.size := X.2.2.2.2.2.2 _ h2.1
  obtain ⟨kA', comp', -, -, -, k4⟩ := (hK.2 4 _ rfl).2
  have hcA : cA = DD.2.1 4 := Option.some.inj (f1.symm.trans k4)
  subst hcA
  have hN : H.size = hp_N σ := h1.1
  generalize hH1 : H.push ({ cls := DD.2.1 4, slots := Array.replicate n.toNatClampNeg .null, vm := .none } : Cell) = H1
  have z1 : H1.size = H.size + 1 := by rw [← hH1, Array.size_push]
  have e1 : H1[H.size]? = some (arrV (DD.2.1 4) n.toNatClampNeg (fun _ => .null)) := by rw [← hH1, Array.getElem?_push_size, ← arrV_new]
  have o1 : ∀ q, q < H.size → H1[q]? = H[q]? := fun q hq => by rw [← hH1, Array.getElem?_push, if_neg (Nat.ne_of_lt hq)]
  have w := h1.newA (t := 4) (y := (n.toNatClampNeg, .inr (.inr (.inr (.inr (fun _ => none)))))) hA rfl z1 o1 e1
  refine W.widen (Nat.le_refl _) (by omega : ks + n.toNatClampNeg ≤ ks + M) ?_
  show W p l e R s m args below meth c H1 locs (kc + 1) (ks + M) Q (F0 m (pc + 3) ls (.ref H.size :: st.map tv))
  rw [hN]
  exact kk H1 locs ls w ⟨Nat.le_trans h2.1 (by omega), fun x q1 q2 => (o1 x (Nat.lt_of_lt_of_le q1 h2.1)).trans (h2.2.1 x q1 q2), h2.2.2⟩ h3
theorem r_objInit (X : CX p s m args c cc nL A DD own) {index : Nat} {r : Option Nat} {b : Nat} (hr : r = some b) (hw : Cond.methodLink own index objectInit ∈ lw_tbl) (hw2 : Cond.instanceMethod objectInit ∈ lw_tbl) (hw3 : Cond.code objectInit ⟨#[0xb1]⟩ 1 none ∈ lw_tbl) (hf : 1 ≤ R.frames) (hl : (st.map tw_).sum + 12 ≤ R.locals) (hd : decode cc pc = .ok (.invokespecial index, 3)) (kk : GG p l e R s m args below meth c nL A DD Q kc ks σ (pc + 3) (lv) (st)) : GG p l e R s m args below meth c nL A DD Q kc ks σ (pc) (lv) (tR r :: st) := by
  intro H locs ls h1 h2 h3
  subst hr
  refine W.objInit (g := F0 m pc ls ((tR (some b) :: st).map tv)) X.1 X.2.1 X.2.2.2.1 (X.2.2.2.2.1 _ hw rfl) (X.2.2.2.2.1 _ hw2 rfl) (X.2.2.2.2.1 _ hw3 rfl) rfl (by rw [X.2.2.1]; exact h3.1) rfl hd hf (by rw [tv_cats]; show 2 * 0 + _ + 12 ≤ _; omega) (kk H locs ls h1 h2 h3)
theorem r_mmax (X : CX p s m args c cc nL A DD own) {x y : Int32} {index : Nat} (hl : Cond.methodLink own index Lib.Math.max.name ∈ lw_tbl) (hst : Cond.static Lib.Math.max.name ∈ lw_tbl) (hini : Cond.initialized "java/lang/Math" ∈ lw_tbl) (hcd : Cond.code Lib.Math.max.name Lib.Math.max.code 2 (some .int) ∈ lw_tbl) (hf : 1 ≤ R.frames) (hlo : (st.map tw_).sum + 13 ≤ R.locals) (hc : kc ≤ R.cells) (hs : ks ≤ R.slots) (hd : decode cc pc = .ok (.invokestatic index, 3)) (kk : GG p l e R s m args below meth c nL A DD Q kc ks σ (pc + 3) (lv) (tI (imax_ x y) :: st)) : GG p l e R s m args below meth c nL A DD Q kc ks σ (pc) (lv) (tI y :: tI x :: st) := fun H locs ls h1 h2 h3 => va_mmax X.1 X.2.1 (by rw [X.2.2.1, h3.1]) X.2.2.2.1 (X.2.2.2.2.1 _ hl rfl) (X.2.2.2.2.1 _ hst rfl) (X.2.2.2.2.1 _ hini rfl) (X.2.2.2.2.1 _ hcd rfl) hf (by rw [tv_cats]; exact hlo) hc hs hd (kk H locs ls h1 h2 h3)
theorem r_mmin (X : CX p s m args c cc nL A DD own) {x y : Int32} {index : Nat} (hl : Cond.methodLink own index Lib.Math.min.name ∈ lw_tbl) (hst : Cond.static Lib.Math.min.name ∈ lw_tbl) (hini : Cond.initialized "java/lang/Math" ∈ lw_tbl) (hcd : Cond.code Lib.Math.min.name Lib.Math.min.code 2 (some .int) ∈ lw_tbl) (hf : 1 ≤ R.frames) (hlo : (st.map tw_).sum + 13 ≤ R.locals) (hc : kc ≤ R.cells) (hs : ks ≤ R.slots) (hd : decode cc pc = .ok (.invokestatic index, 3)) (kk : GG p l e R s m args below meth c nL A DD Q kc ks σ (pc + 3) (lv) (tI (imin_ x y) :: st)) : GG p l e R s m args below meth c nL A DD Q kc ks σ (pc) (lv) (tI y :: tI x :: st) := fun H locs ls h1 h2 h3 => va_mmin X.1 X.2.1 (by rw [X.2.2.1, h3.1]) X.2.2.2.1 (X.2.2.2.2.1 _ hl rfl) (X.2.2.2.2.1 _ hst rfl) (X.2.2.2.2.1 _ hini rfl) (X.2.2.2.2.1 _ hcd rfl) hf (by rw [tv_cats]; exact hlo) hc hs hd (kk H locs ls h1 h2 h3)
theorem r_mabs (X : CX p s m args c cc nL A DD own) {x : Int32} {index : Nat} (hl : Cond.methodLink own index Lib.Math.abs.name ∈ lw_tbl) (hst : Cond.static Lib.Math.abs.name ∈ lw_tbl) (hini : Cond.initialized "java/lang/Math" ∈ lw_tbl) (hcd : Cond.code Lib.Math.abs.name Lib.Math.abs.code 1 (some .int) ∈ lw_tbl) (hf : 1 ≤ R.frames) (hlo : (st.map tw_).sum + 13 ≤ R.locals) (hc : kc ≤ R.cells) (hs : ks ≤ R.slots) (hd : decode cc pc = .ok (.invokestatic index, 3)) (kk : GG p l e R s m args below meth c nL A DD Q kc ks σ (pc + 3) (lv) (tI (iabs_ x) :: st)) : GG p l e R s m args below meth c nL A DD Q kc ks σ (pc) (lv) (tI x :: st) := fun H locs ls h1 h2 h3 => va_mabs X.1 X.2.1 (by rw [X.2.2.1, h3.1]) X.2.2.2.1 (X.2.2.2.2.1 _ hl rfl) (X.2.2.2.2.1 _ hst rfl) (X.2.2.2.2.1 _ hini rfl) (X.2.2.2.2.1 _ hcd rfl) hf (by rw [tv_cats]; exact hlo) hc hs hd (kk H locs ls h1 h2 h3)
theorem r_mminL (X : CX p s m args c cc nL A DD own) {x y : Int64} {index : Nat} (hl : Cond.methodLink own index Lib.MathLoose.min_long.x ∈ lw_tbl) (hst : Cond.static Lib.MathLoose.min_long.x ∈ lw_tbl) (hini : Cond.initialized "java/lang/Math" ∈ lw_tbl) (hcd : Cond.code Lib.MathLoose.min_long.x Lib.MathLoose.min_long.code 4 (some .long) ∈ lw_tbl) (hf : 1 ≤ R.frames) (hlo : (st.map tw_).sum + 15 ≤ R.locals) (hc : kc ≤ R.cells) (hs : ks ≤ R.slots) (hd : decode cc pc = .ok (.invokestatic index, 3)) (kk : GG p l e R s m args below meth c nL A DD Q kc ks σ (pc + 3) (lv) (tL (lmin_ x y) :: st)) : GG p l e R s m args below meth c nL A DD Q kc ks σ (pc) (lv) (tL y :: tL x :: st) := fun H locs ls h1 h2 h3 => va_mmin_long X.1 X.2.1 (by rw [X.2.2.1, h3.1]) X.2.2.2.1 (X.2.2.2.2.1 _ hl rfl) (X.2.2.2.2.1 _ hst rfl) (X.2.2.2.2.1 _ hini rfl) (X.2.2.2.2.1 _ hcd rfl) hf (by rw [tv_cats]; exact hlo) hc hs hd (kk H locs ls h1 h2 h3)
theorem r_run {mc ms : Nat} {H : Heap} {locs : List Loc} {ls : Array Slot} {st0 rest : List Value} {res : Option TV} {σ' : Hp} {a : Array Value} (hA : ∀ q, s.heap.size ≤ q → A q) (h1 : wld A DD σ H) (h2 : va_S A s.heap H locs) (hr : va_Run p l e R s m args below meth c H locs kc ks mc ms (F0 m pc ls st0) rest (Post DD σ res σ' a) (dm σ))
    (kk : ∀ (H1 : Heap) (locs1 : List Loc), wld A DD σ' H1 → va_S A s.heap H1 locs1 → W p l e R s m args below meth c H1 locs1 (kc + mc) (ks + ms) Q (F0 m (pc + 3) ls ((res.map tv).toList ++ rest))) : W p l e R s m args below meth c H locs kc ks Q (F0 m pc ls st0) := by
  intro T hT X
  obtain ⟨v, st₀, t, T', L, h0, X', hL, e1, e2, ⟨⟨hv, hw⟩, hz, hk⟩, sg⟩ := hr T hT X
  cases hv
  rw [h0] at hz hk
  have hin := h1.in (fun q h => hA q (Nat.le_trans h2.1 h))
  obtain ⟨t2, a1, b1⟩ := kk T'.heap (locs ++ L) (by rw [e1]; exact hw.mono hin) ⟨Nat.le_trans h2.1 (by rw [e1]; exact hz), fun q q1 q2 => by rw [e1, hk q (Nat.lt_of_lt_of_le q1 h2.1) (fun z => q2 (hin q z))]; exact h2.2.1 q q1 q2, fun q hq => by
      rcases List.mem_append.mp hq with h | h
      · exact h2.2.2 q h
      · exact hin _ (hL q h)⟩ T' rfl X'
  exact ⟨t2, sg t2 a1, b1⟩
theorem ret_stk (res : Option TV) (st : List TV) : (res.map tv).toList ++ st.map tv = (res.toList ++ st).map tv := by cases res <;> rfl
theorem pre_in {H : Heap} {locs : List Loc} {As : List TV} (X : CX p s m args c cc nL A DD own) (h1 : wld A DD σ H) (h2 : va_S A s.heap H locs) : ∀ U : State, U.heap = H → s.WarmedH U.vm → Pre DD As σ (As.map tv).toArray U := fun U hU hW => ⟨rfl, by rw [hU]; exact h1.self, X.2.2.2.2.2.1.to hU h2 hW (h1.in (fun q h => X.2.2.2.2.2.2 q (Nat.le_trans h2.1 h)))⟩
theorem r_callV (X : CX p s m args c cc nL A DD own) {y : MethodName} {bytes : ByteArray} {maxL index n : Nat} {ret : Option FieldType} {rm : Room} (As : List TV) {res : Option TV} {σ' : Hp} {r : Option Nat} {ci b : Nat} (hr : is_O σ r ci = some b) (hci : ci < 12) (hl : Cond.methodLink own index y ∈ lw_tbl) (hin : Cond.instanceMethod y ∈ lw_tbl) (hsel : Cond.selects (kR ci) y y ∈ lw_tbl) (hM : CT l DD y bytes maxL ret rm (tR r :: As) σ res σ') (hcd : Cond.code y bytes maxL ret ∈ lw_tbl) (hini : Cond.initialized y.cls ∈ lw_tbl) (hdd : y.cls ≠ "java/lang/invoke/MethodHandle" ∧ y.cls ≠ "java/lang/invoke/VarHandle" ∧ (parseMethodDescriptor y.desc).map (fun d => d.parameters.length) = some n) (hn : As.length = n) (hR : rm.frames + 1 ≤ R.frames ∧ 8 + (maxL + 11) + rm.locals ≤ R.locals) (hroom : (st.map tw_).sum ≤ 8) (hf : kc + rm.cells ≤ R.cells ∧ ks + rm.slots ≤ R.slots) (hd : decode cc pc = .ok (.invokevirtual index, 3)) (kk : GG p l e R s m args below meth c nL A DD Q (kc + rm.cells) (ks + rm.slots) (σ') (pc + 3) (lv) (res.toList ++ st)) : GG p l e R s m args below meth c nL A DD Q kc ks σ (pc) (lv) (As.reverse ++ tR r :: st) := by
  intro H locs ls h1 h2 h3
  have ht : ∀ w ∈ lw_tbl.filter goodWord, w.before args s = true := fun w hw => X.2.2.2.2.1 w (List.mem_filter.mp hw).1 (List.mem_filter.mp hw).2
  obtain ⟨rfl, hc⟩ := is_O_spec hr
  obtain ⟨g1, g2, g3, cell, q1, q2, q3, q4⟩ := h1.2.1 b ci hc
  refine r_run X.2.2.2.2.2.2 h1 h2 (va_runV (As := As.map tv) (rest := st.map tv) (b := b) (C := kR ci) (g := F0 m pc ls ((As.reverse ++ tR (some b) :: st).map tv)) ⟨X.1, X.2.1, X.2.2.1, X.2.2.2.1, ht⟩ hM ⟨callB_of n ht (wsM_good hcd) rfl rfl rfl (X.2.2.2.2.1 _ hini rfl) (X.2.2.2.2.1 _ hl rfl) hdd hR, X.2.2.2.2.1 _ hin rfl, X.2.2.2.2.1 _ hsel rfl⟩ ⟨Pre_blind, ⟨cell, q1, by rw [q3]; rfl, by rw [q2]; exact (X.2.2.2.2.2.1.1.1 ci _ (kcl_at hci)).2.1⟩, pre_in X h1 h2⟩ rfl (by rw [List.length_map]; exact hn) h3.1 (by show (List.map tv (As.reverse ++ tR (some b) :: st)) = _; rw [List.map_append, List.map_reverse]; rfl) (lv_room (m := m) (pc := pc) (ls := ls) (rest := ((As.reverse ++ tR (some b) :: st).map tv)) (by rw [tv_cats]; exact hroom)) hd hf) fun H1 locs1 w1 w2 => ?_
  rw [ret_stk]
  exact kk H1 locs1 ls w1 w2 h3
theorem r_callS (X : CX p s m args c cc nL A DD own) {y : MethodName} {bytes : ByteArray} {maxL index n : Nat} {ret : Option FieldType} {rm : Room} (As : List TV) {res : Option TV} {σ' : Hp} (hl : Cond.methodLink own index y ∈ lw_tbl) (hst : Cond.static y ∈ lw_tbl) (hM : CT l DD y bytes maxL ret rm As σ res σ') (hcd : Cond.code y bytes maxL ret ∈ lw_tbl) (hini : Cond.initialized y.cls ∈ lw_tbl) (hdd : y.cls ≠ "java/lang/invoke/MethodHandle" ∧ y.cls ≠ "java/lang/invoke/VarHandle" ∧ (parseMethodDescriptor y.desc).map (fun d => d.parameters.length) = some n) (hn : As.length = n) (hR : rm.frames + 1 ≤ R.frames ∧ 8 + (maxL + 11) + rm.locals ≤ R.locals) (hroom : (st.map tw_).sum ≤ 8) (hf : kc + rm.cells ≤ R.cells ∧ ks + rm.slots ≤ R.slots) (hd : decode cc pc = .ok (.invokestatic index, 3)) (kk : GG p l e R s m args below meth c nL A DD Q (kc + rm.cells) (ks + rm.slots) (σ') (pc + 3) (lv) (res.toList ++ st)) : GG p l e R s m args below meth c nL A DD Q kc ks σ (pc) (lv) (As.reverse ++ st) := by
  intro H locs ls h1 h2 h3
  have ht : ∀ w ∈ lw_tbl.filter goodWord, w.before args s = true := fun w hw => X.2.2.2.2.1 w (List.mem_filter.mp hw).1 (List.mem_filter.mp hw).2
  refine r_run X.2.2.2.2.2.2 h1 h2 (va_runS (As := As.map tv) (rest := st.map tv) (g := F0 m pc ls ((As.reverse ++ st).map tv)) ⟨X.1, X.2.1, X.2.2.1, X.2.2.2.1, ht⟩ hM ⟨callB_of n ht (wsM_good hcd) rfl rfl rfl (X.2.2.2.2.1 _ hini rfl) (X.2.2.2.2.1 _ hl rfl) hdd hR, X.2.2.2.2.1 _ hst rfl⟩ ⟨Pre_blind, pre_in X h1 h2⟩ rfl (by rw [List.length_map]; exact hn) h3.1 (by show (List.map tv (As.reverse ++ st)) = _; rw [List.map_append, List.map_reverse]) (lv_room (m := m) (pc := pc) (ls := ls) (rest := ((As.reverse ++ st).map tv)) (by rw [tv_cats]; exact hroom)) hd hf) fun H1 locs1 w1 w2 => ?_
  rw [ret_stk]
  exact kk H1 locs1 ls w1 w2 h3
theorem r_callI (X : CX p s m args c cc nL A DD own) {y : MethodName} {bytes : ByteArray} {maxL index n : Nat} {ret : Option FieldType} {rm : Room} (As : List TV) {res : Option TV} {σ' : Hp} {r : Option Nat} {b : Nat} (hr : r = some b) (hl : Cond.methodLink own index y ∈ lw_tbl) (hin : Cond.instanceMethod y ∈ lw_tbl) (hy1 : y.name = "<init>") (hM : CT l DD y bytes maxL none rm (tR r :: As) σ res σ') (hcd : Cond.code y bytes maxL none ∈ lw_tbl) (hini : Cond.initialized y.cls ∈ lw_tbl) (hdd : y.cls ≠ "java/lang/invoke/MethodHandle" ∧ y.cls ≠ "java/lang/invoke/VarHandle" ∧ (parseMethodDescriptor y.desc).map (fun d => d.parameters.length) = some n) (hn : As.length = n) (hR : rm.frames + 1 ≤ R.frames ∧ 8 + (maxL + 11) + rm.locals ≤ R.locals) (hroom : (st.map tw_).sum ≤ 8) (hf : kc + rm.cells ≤ R.cells ∧ ks + rm.slots ≤ R.slots) (hd : decode cc pc = .ok (.invokespecial index, 3)) (kk : GG p l e R s m args below meth c nL A DD Q (kc + rm.cells) (ks + rm.slots) (σ') (pc + 3) (lv) (res.toList ++ st)) : GG p l e R s m args below meth c nL A DD Q kc ks σ (pc) (lv) (As.reverse ++ tR r :: st) := by
  intro H locs ls h1 h2 h3
  have ht : ∀ w ∈ lw_tbl.filter goodWord, w.before args s = true := fun w hw => X.2.2.2.2.1 w (List.mem_filter.mp hw).1 (List.mem_filter.mp hw).2
  subst hr
  refine r_run X.2.2.2.2.2.2 h1 h2 (va_runI (As := As.map tv) (rest := st.map tv) (b := b) (g := F0 m pc ls ((As.reverse ++ tR (some b) :: st).map tv)) ⟨X.1, X.2.1, X.2.2.1, X.2.2.2.1, ht⟩ hM ⟨callB_of n ht (wsM_good hcd) rfl rfl rfl (X.2.2.2.2.1 _ hini rfl) (X.2.2.2.2.1 _ hl rfl) hdd hR, hy1, X.2.2.2.2.1 _ hin rfl⟩ ⟨Pre_blind, pre_in (As := tR (some b) :: As) X h1 h2⟩ rfl (by rw [List.length_map]; exact hn) h3.1 (by show (List.map tv (As.reverse ++ tR (some b) :: st)) = _; rw [List.map_append, List.map_reverse]; rfl) (lv_room (m := m) (pc := pc) (ls := ls) (rest := ((As.reverse ++ tR (some b) :: st).map tv)) (by rw [tv_cats]; exact hroom)) hd hf) fun H1 locs1 w1 w2 => ?_
  rw [ret_stk]
  exact kk H1 locs1 ls w1 w2 h3
theorem r_callIN (X : CX p s m args c cc nL A DD own) {y : MethodName} {bytes : ByteArray} {maxL index n : Nat} {ret : Option FieldType} {rm : Room} (As : List TV) {res : Option TV} {σ' : Hp} {r : Option Nat} {b : Nat} {host : String} (hr : r = some b) (hl : Cond.methodLinkNest own index y host ∈ nests) (hin : Cond.instanceMethod y ∈ lw_tbl) (hy1 : y.name = "<init>") (hM : CT l DD y bytes maxL none rm (tR r :: As) σ res σ') (hcd : Cond.code y bytes maxL none ∈ lw_tbl) (hini : Cond.initialized y.cls ∈ lw_tbl) (hdd : y.cls ≠ "java/lang/invoke/MethodHandle" ∧ y.cls ≠ "java/lang/invoke/VarHandle" ∧ (parseMethodDescriptor y.desc).map (fun d => d.parameters.length) = some n) (hn : As.length = n) (hR : rm.frames + 1 ≤ R.frames ∧ 8 + (maxL + 11) + rm.locals ≤ R.locals) (hroom : (st.map tw_).sum ≤ 8) (hf : kc + rm.cells ≤ R.cells ∧ ks + rm.slots ≤ R.slots) (hd : decode cc pc = .ok (.invokespecial index, 3)) (kk : GG p l e R s m args below meth c nL A DD Q (kc + rm.cells) (ks + rm.slots) (σ') (pc + 3) (lv) (res.toList ++ st)) : GG p l e R s m args below meth c nL A DD Q kc ks σ (pc) (lv) (As.reverse ++ tR r :: st) := by
  intro H locs ls h1 h2 h3
  have ht : ∀ w ∈ lw_tbl.filter goodWord, w.before args s = true := fun w hw => X.2.2.2.2.1 w (List.mem_filter.mp hw).1 (List.mem_filter.mp hw).2
  subst hr
  refine r_run X.2.2.2.2.2.2 h1 h2 (va_runIN (As := As.map tv) (rest := st.map tv) (b := b) (host := host) (g := F0 m pc ls ((As.reverse ++ tR (some b) :: st).map tv)) ⟨X.1, X.2.1, X.2.2.1, X.2.2.2.1, ht⟩ hM ⟨va_cnB n ht (wsM_good hcd) rfl rfl rfl (X.2.2.2.2.2.1.2.1 _ hl) (X.2.2.2.2.1 _ hini rfl) hdd hR, hy1, X.2.2.2.2.1 _ hin rfl⟩ ⟨Pre_blind, pre_in (As := tR (some b) :: As) X h1 h2⟩ rfl (by rw [List.length_map]; exact hn) h3.1 (by show (List.map tv (As.reverse ++ tR (some b) :: st)) = _; rw [List.map_append, List.map_reverse]; rfl) (lv_room (m := m) (pc := pc) (ls := ls) (rest := ((As.reverse ++ tR (some b) :: st).map tv)) (by rw [tv_cats]; exact hroom)) hd hf) fun H1 locs1 w1 w2 => ?_
  rw [ret_stk]
  exact kk H1 locs1 ls w1 w2 h3
theorem r_iret {σ0 : Hp} (X : CX p s m args c cc nL (dm σ0) DD own) {x : Int32} (hret : meth.sig.returnType = some .int) (hlk : meth.locks = false) (hd : decode cc pc = .ok (.ireturn, 1)) : GG p l e R s m args below meth c nL (dm σ0) DD (MQ below (Post DD σ0 (some (tI x)) σ) args s kc ks (dm σ0)) kc ks σ (pc) (lv) ([tI x]) := fun H locs ls h1 h2 h3 => W.iret X.1 X.2.1 hret (fun t ht hW => ⟨⟨rfl, by rw [ht]; exact h1⟩, h2.F ht⟩) h2.2.2 hd hlk
theorem r_lret {σ0 : Hp} (X : CX p s m args c cc nL (dm σ0) DD own) {x : Int64} (hret : meth.sig.returnType = some .long) (hlk : meth.locks = false) (hd : decode cc pc = .ok (.lreturn, 1)) : GG p l e R s m args below meth c nL (dm σ0) DD (MQ below (Post DD σ0 (some (tL x)) σ) args s kc ks (dm σ0)) kc ks σ (pc) (lv) ([tL x]) := fun H locs ls h1 h2 h3 => W.lret X.1 X.2.1 hret (fun t ht hW => ⟨⟨rfl, by rw [ht]; exact h1⟩, h2.F ht⟩) h2.2.2 hd hlk
theorem r_vret {σ0 : Hp} (X : CX p s m args c cc nL (dm σ0) DD own) (hret : meth.sig.returnType = none) (hlk : meth.locks = false) (hd : decode cc pc = .ok (.return_, 1)) : GG p l e R s m args below meth c nL (dm σ0) DD (MQ below (Post DD σ0 none σ) args s kc ks (dm σ0)) kc ks σ (pc) (lv) ([]) := fun H locs ls h1 h2 h3 => W.vret X.1 X.2.1 hret (fun t ht hW => ⟨⟨rfl, by rw [ht]; exact h1⟩, h2.F ht⟩) h2.2.2 hd hlk
theorem r_zret {σ0 : Hp} (X : CX p s m args c cc nL (dm σ0) DD own) {x : Int32} (hret : meth.sig.returnType = some .boolean) (hlk : meth.locks = false) (hz : x = 0 ∨ x = 1) (hd : decode cc pc = .ok (.ireturn, 1)) : GG p l e R s m args below meth c nL (dm σ0) DD (MQ below (Post DD σ0 (some (tI x)) σ) args s kc ks (dm σ0)) kc ks σ (pc) (lv) ([tI x]) := fun H locs ls h1 h2 h3 => W.zret X.1 X.2.1 hret (by rcases hz with rfl | rfl <;> rfl) (fun t ht hW => ⟨⟨rfl, by rw [ht]; exact h1⟩, h2.F ht⟩) h2.2.2 hd hlk
theorem r_aret {σ0 : Hp} {C : String} {x : Option Nat} (X : CX p s m args c cc nL (dm σ0) DD own) (hret : meth.sig.returnType = some (.object C)) (hlk : meth.locks = false) (hd : decode cc pc = .ok (.areturn, 1)) : GG p l e R s m args below meth c nL (dm σ0) DD (MQ below (Post DD σ0 (some (tR x)) σ) args s kc ks (dm σ0)) kc ks σ (pc) (lv) ([tR x]) := fun H locs ls h1 h2 h3 => W.aret X.1 X.2.1 hret (Or.inl ⟨C, rfl⟩) (va_rf_or x) (fun t ht hW => ⟨⟨rfl, by rw [ht]; exact h1⟩, h2.F ht⟩) h2.2.2 hd hlk
end RX
/-- a method's entry -/
def tv_args : Nat → List TV → List (Nat × TV)
  | _, [] => []
  | i, v :: vs => (i, v) :: tv_args (i + tw_ v) vs
theorem tv_args_eq (vs : List TV) : ∀ i, lv_args i (vs.map tv) = lvm (tv_args i vs) := by
  induction vs with
  | nil => intro i; rfl
  | cons v vs ih =>
    intro i
    have h2 : (tv v).category = tw_ v := tv_cat v
    rcases v with v | v | v
    · simp only [List.map_cons, lv_args, tv_args, lvm, h2, tw_]
      simp [ih, lvm]
    · simp only [List.map_cons, lv_args, tv_args, lvm, h2, tw_]
      simp [ih, lvm]
    · simp only [List.map_cons, lv_args, tv_args, lvm, h2, tw_]
      simp [ih, lvm]
theorem tv_sl (vs : List TV) : (lg_sl (vs.map tv)).length = (vs.map tw_).sum := by
  induction vs with
  | nil => rfl
  | cons v vs ih =>
    have h2 : (tv v).category = tw_ v := tv_cat v
    have h3 : lg_sl (tv v :: vs.map tv) = (if (tv v).category = 2 then [.val (tv v), .second] else [.val (tv v)]) ++ lg_sl (vs.map tv) := rfl
    rw [List.map_cons, h3, List.length_append, ih, h2, List.map_cons, List.sum_cons]
    rcases v with v | v | v <;> simp [tw_]
theorem r_met {l : Launch} {DD : DT} {y : MethodName} {cc : ByteArray} {n : Nat} {ret : Option FieldType} {rm : Room} {As : List TV} {σ : Hp} {res : Option TV} {σ' : Hp} (hy : plainName y.cls = true) (hn : (As.map tw_).sum ≤ n)
    (body : ∀ (p : Program) (e : Env) (s : State) (m : MethodId) (args : Array Value) (below : List Frame) (meth : Method) (c : Code), CX p s m args c cc n (dm σ) DD y.cls → meth.sig.returnType = ret → meth.locks = false → meth.name = y.name →
      GG p l e rm s m args below meth c n (dm σ) DD (MQ below (Post DD σ res σ') args s rm.cells rm.slots (dm σ)) 0 0 σ 0 (tv_args 0 As) []) : CT l DD y cc n ret rm As σ res σ' := by
  refine Met.ofW (cc := cc) (maxL := n) (ret := ret) hy rfl ?_
  intro p e s m args below meth c s₁ B hml hv
  obtain ⟨rfl, hw, hK⟩ := hv
  have hts := atoms_spec (ws := wsM y cc n ret) B.pre
  have hown : s.vm.findClass y.cls = some m.cls := findClass_of_methodNamed B.named
  have X : CX p s m (As.map tv).toArray c cc n (dm σ) DD y.cls := ⟨B.exec, B.bytes, hml, hown, TW_of hts, hK, fun q h => Or.inr (by rw [← hw.1]; exact h)⟩
  have hl := lv_entry (As.map tv) (n := n) (by rw [tv_sl]; exact hn)
  rw [lg_entry_eq]
  rw [tv_args_eq] at hl
  exact body p e s m _ below meth c X B.returns B.notSynchronized (name_of_methodNamed B.named B.method).1 s.heap [] _ hw va_S.rf hl
