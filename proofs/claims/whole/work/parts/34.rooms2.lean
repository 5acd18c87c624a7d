/-! more of the rooms' methods, on lists -/
theorem nd_len : ∀ (n : Nat) (l : List Nat), l.Nodup → (∀ e ∈ l, e < n) → l.length ≤ n := by
  intro n
  induction n with
  | zero =>
    intro l _ h
    cases l with
    | nil => exact Nat.le_refl _
    | cons a l => exact absurd (h a List.mem_cons_self) (by omega)
  | succ n ih =>
    intro l hl h
    by_cases hn : n ∈ l
    · have h1 := ih (l.erase n) (hl.erase n) (fun e he => by
        have h2 := h e (List.mem_of_mem_erase he)
        have h3 : e ≠ n := fun z => (List.Nodup.not_mem_erase hl) (z ▸ he)
        omega)
      rw [List.length_erase_of_mem hn] at h1
      have := List.length_pos_of_mem hn
      omega
    · exact Nat.le_succ_of_le (ih l hl (fun e he => by
        have h2 := h e he
        have h3 : e ≠ n := fun z => hn (z ▸ he)
        omega))
theorem in3_or {q : Nat} (h : in3 q) : q = 1 ∨ q = 2 ∨ q = 3 := by
  obtain ⟨h1, h2⟩ := h; omega
/-- the limit of protected, by the rooms' object -/
def limC (σ : Hp) (c : Nat) : Int32 := (hp_I σ 8 0 (c + 17) - hp_I σ 8 4 (c + 17)) * 4 / 5
def tq (q : Nat) : Nat := if q = 2 then 3 else q
def touchL (wt : Nat → Int32) (lim : Int32) (e q : Nat) (L : Nat → List Nat) : Nat → List Nat := trimL wt lim ((mv L e q (tq q)) 3).length (mv L e q (tq q))
def spillL (wt : Nat → Int32) (lim : Int32) : Nat → (Nat → List Nat) → Nat → List Nat
  | 0, L => L
  | k + 1, L => match L 1 with
    | [] => L
    | e :: _ => if sw wt (L 1) ≤ lim then L else spillL wt lim k (mv L e 1 2)
def fillL (wt : Nat → Int32) (lim : Int32) : Nat → (Nat → List Nat) → Nat → List Nat
  | 0, L => L
  | k + 1, L => match L 2 with
    | e :: _ => if sw wt (L 1) + wt e ≤ lim then fillL wt lim k (mv L e 2 1) else L
    | [] => match L 3 with
      | e :: _ => if sw wt (L 1) + wt e ≤ lim then fillL wt lim k (mv L e 3 1) else L
      | [] => L
theorem mv_r {L : Nat → List Nat} {e q r : Nat} (hqr : q ≠ r) : mv L e q r r = L r ++ [e] := by
  unfold mv
  rw [upL_s, upL_n (Ne.symm hqr)]
theorem mv_o {L : Nat → List Nat} {e q r x : Nat} (h1 : x ≠ q) (h2 : x ≠ r) : mv L e q r x = L x := by
  unfold mv
  rw [upL_n h2, upL_n h1]
theorem M37.lim {σ σ' : Hp} {c : Nat} (m : M37 σ σ') : limC σ' c = limC σ c := by
  unfold limC
  rw [m.2.2.2.2.1 _ _ _ (by decide), m.2.2.2.2.1 _ _ _ (by decide)]
section RO
variable {σ : Hp} {c n : Nat} {es : Nat → Nat} {wt : Nat → Int32} {L : Nat → List Nat}
theorem RI.len (h : RI σ c es n wt L) {r : Nat} (hr : in3 r) : (L r).length ≤ n := nd_len n (L r) (h.nd hr) (h.2.2.2.1 r hr)
theorem RI.c3 (h : RI σ c es n wt L) {e : Nat} (he : e < n) : hp_C σ (es e) = some 3 := (h.2.2.2.2.1 e he).1
theorem RI.lt (h : RI σ c es n wt L) {r e : Nat} (hr : in3 r) (he : e ∈ L r) : e < n := h.2.2.2.1 r hr e he
theorem RI.next (h : RI σ c es n wt L) {r e : Nat} {l1 l2 : List Nat} (hr : in3 r) (hl : L r = l1 ++ e :: l2) : hp_R σ 3 10 (es e) = l2.head?.map es := by
  have h1 := (h.2.1 r hr).1.2.2.2.2.1
  rw [hl, List.map_append, List.map_cons] at h1
  obtain ⟨-, -, -, -, h2, -⟩ := seg_app.mp h1
  rw [h2]
  cases l2 <;> rfl
theorem RI.touch (h : RI σ c es n wt L) {N e q : Nat} (hn : n ≤ 600) (hN : 1000 ≤ N) (hq : in3 q) (he : e ∈ L q) :
    ∃ σ', f_Rs_touch N (some (c + 17)) (some (es e)) σ = some σ' ∧ RI σ' c es n wt (touchL wt (limC σ c) e q L) ∧ M37 σ σ' := by
  have ht : in3 (tq q) := by
    unfold tq; split
    · exact i3
    · exact hq
  obtain ⟨σ1, σ2, f1, f2, m1, j1, j2, m2⟩ := h.move hq ht he
  have hl3 := j2.len i3
  obtain ⟨σ', f3, j3, m3⟩ := j2.trim (N := N) (by omega) (by omega)
  refine ⟨σ', ?_, ?_, m2.trans m3⟩
  · have hen := h.lt hq he
    have q2 : hp_R σ1 8 2 (c + 17) = some (rA c 2) := j1.1.2.2.1
    have q3 : hp_R σ1 8 3 (c + 17) = some (rA c 3) := j1.1.2.2.2
    have hr := h.inR hq he
    rcases in3_or hq with rfl | rfl | rfl
    · have hne : ¬ rA c 1 = rA c 2 := rA_ne (by decide)
      simp only [tq] at f2
      simp at f2
      simp [f_Rs_touch, f_Rs_touch_31, ldR, h.c3 hen, hr, isO, h.c7 i1, f1, j1.1.1, q2, hne, j1.c7 i1, f2, j2.1.1, f3]
    · simp only [tq] at f2
      simp at f2
      simp [f_Rs_touch, f_Rs_touch_31, ldR, h.c3 hen, hr, isO, h.c7 i2, f1, j1.1.1, q2, q3, j1.c7 i3, f2, j2.1.1, f3]
    · have hne : ¬ rA c 3 = rA c 2 := rA_ne (by decide)
      simp only [tq] at f2
      simp at f2
      simp [f_Rs_touch, f_Rs_touch_31, ldR, h.c3 hen, hr, isO, h.c7 i3, f1, j1.1.1, q2, hne, j1.c7 i3, f2, j2.1.1, f3]
  · have := m2.lim (c := c)
    unfold limC at this
    rw [this] at j3
    exact j3
theorem RI.touch_no (h : RI σ c es n wt L) {N e : Nat} (he : e < n) (hno : ∀ r, in3 r → e ∉ L r) : f_Rs_touch N (some (c + 17)) (some (es e)) σ = some σ := by
  simp [f_Rs_touch, ldR, h.c3 he, h.2.2.2.2.2.1 e he hno]
theorem RI.takeOut (h : RI σ c es n wt L) {e q : Nat} (hq : in3 q) (he : e ∈ L q) :
    ∃ σ', f_Rs_takeOut (some (c + 17)) (some (es e)) σ = some σ' ∧ RI σ' c es n wt (upL L q ((L q).erase e)) ∧ M37 σ σ' := by
  obtain ⟨σ1, f1, j1, m1⟩ := h.cut hq he
  exact ⟨σ1, by simp [f_Rs_takeOut, ldR, h.c3 (h.lt hq he), h.inR hq he, isO, h.c7 hq, f1], j1, m1⟩
theorem RI.takeOut_no (h : RI σ c es n wt L) {e : Nat} (he : e < n) (hno : ∀ r, in3 r → e ∉ L r) : f_Rs_takeOut (some (c + 17)) (some (es e)) σ = some σ := by
  simp [f_Rs_takeOut, ldR, h.c3 he, h.2.2.2.2.2.1 e he hno]
theorem RI.size (h : RI σ c es n wt L) : f_Rs_size (some (c + 17)) σ = some (nI ((L 1).length + (L 2).length + (L 3).length), σ) := by
  obtain ⟨r0, r1, r2, r3⟩ := h.1
  simp [f_Rs_size, ldR, ldI, r0, r1, r2, r3, h.c7 i1, h.c7 i2, h.c7 i3, h.s7 i1, h.s7 i2, h.s7 i3, nI_add]
theorem RI.weight (h : RI σ c es n wt L) : f_Rs_weight (some (c + 17)) σ = some (sw wt (L 1) + sw wt (L 2) + sw wt (L 3), σ) := by
  obtain ⟨r0, r1, r2, r3⟩ := h.1
  simp [f_Rs_weight, ldR, ldI, r0, r1, r2, r3, h.c7 i1, h.c7 i2, h.c7 i3, h.w7 i1, h.w7 i2, h.w7 i3]
def vicL (L : Nat → List Nat) : Option Nat := (L 2).head?.or ((L 3).head?.or (L 1).head?)
theorem RI.victim (h : RI σ c es n wt L) : f_Rs_victim (some (c + 17)) σ = some ((vicL L).map es, σ) := by
  obtain ⟨r0, r1, r2, r3⟩ := h.1
  cases h2 : (L 2).head? with
  | some e => simp [f_Rs_victim, ldR, r0, r1, r2, r3, h.c7 i1, h.c7 i2, h.c7 i3, h.earliest i2, h2, vicL]
  | none =>
    cases h3 : (L 3).head? with
    | some e => simp [f_Rs_victim, ldR, r0, r1, r2, r3, h.c7 i1, h.c7 i2, h.c7 i3, h.earliest i2, h.earliest i3, h2, h3, vicL]
    | none => simp [f_Rs_victim, ldR, r0, r1, r2, r3, h.c7 i1, h.c7 i2, h.c7 i3, h.earliest i2, h.earliest i3, h.earliest i1, h2, h3, vicL]
theorem spill_loop (N : Nat) (v : Option Nat) (lim : Int32) : ∀ (i k : Nat) (σ : Hp) (L : Nat → List Nat), RI σ c es n wt L → hp_I σ 8 4 (c + 17) = lim → k = (L 1).length → k < i → k < 2 ^ 31 → ∃ σ', f_Rs_spillWindow_34 N i (some (c + 17)) v (nI k) σ = some (v, σ') ∧ RI σ' c es n wt (spillL wt lim k L) ∧ M37 σ σ' := by
  intro i
  induction i with
  | zero => intro k σ L h _ hk hi; omega
  | succ i ih =>
    intro k σ L h hlim hk hi hlt
    cases k with
    | zero => exact ⟨σ, by simp [f_Rs_spillWindow_34, nI_0], h, M37.rf⟩
    | succ k =>
      have hne : ¬ (nI (k + 1) ≤ 0) := nI_nle (by omega) hlt
      cases hl : L 1 with
      | nil => rw [hl] at hk; cases hk
      | cons e l =>
        obtain ⟨r0, r1, r2, r3⟩ := h.1
        have hw := h.w7 i1
        by_cases hwl : sw wt (L 1) ≤ lim
        · refine ⟨σ, ?_, ?_, M37.rf⟩
          · simp [f_Rs_spillWindow_34, hne, ldR, ldI, r0, r1, h.c7 i1, hw, hwl, hlim]
          · have : spillL wt lim (k + 1) L = L := by simp only [spillL, hl]; rw [hl] at hwl; rw [if_pos hwl]
            rw [this]; exact h
        · obtain ⟨σ2, f1, j2, m2⟩ := h.moveEarliest i1 i2 hl (v0 := some (c + 17))
          obtain ⟨σ', f3, j3, m3⟩ := ih k σ2 (mv L e 1 2) j2 (by rw [m2.2.2.2.2.1 _ _ _ (by decide)]; exact hlim) (by rw [mv_len hl (by decide)]; rw [hl] at hk; simpa using hk) (by omega) (by omega)
          refine ⟨σ', ?_, ?_, m2.trans m3⟩
          · have hk1 : nI (k + 1) + (-1) = nI k := pk_m1 k
            simp [f_Rs_spillWindow_34, hne, ldR, ldI, r0, r1, r2, h.c7 i1, hw, hwl, hlim, isO, f1, hk1, f3]
          · have : spillL wt lim (k + 1) L = spillL wt lim k (mv L e 1 2) := by simp only [spillL, hl]; rw [hl] at hwl; rw [if_neg hwl]
            rw [this]; exact j3
theorem RI.spill (h : RI σ c es n wt L) {N : Nat} (hn : n ≤ 600) (hN : 1000 ≤ N) : ∃ σ', f_Rs_spillWindow N (some (c + 17)) σ = some ((if sw wt (L 1) ≤ hp_I σ 8 4 (c + 17) then none else (L 1).head?).map es, σ') ∧ RI σ' c es n wt (spillL wt (hp_I σ 8 4 (c + 17)) (L 1).length L) ∧ M37 σ σ' := by
  obtain ⟨r0, r1, r2, r3⟩ := h.1
  have hl1 := h.len i1
  by_cases hw : sw wt (L 1) ≤ hp_I σ 8 4 (c + 17)
  · obtain ⟨σ', f1, j1, m1⟩ := spill_loop N none (hp_I σ 8 4 (c + 17)) N (L 1).length σ L h rfl rfl (by omega) (by omega)
    refine ⟨σ', ?_, j1, m1⟩
    simp [f_Rs_spillWindow, f_Rs_spillWindow_25, ldI, ldR, r0, r1, h.c7 i1, h.w7 i1, h.s7 i1, hw, f1]
  · obtain ⟨σ', f1, j1, m1⟩ := spill_loop N ((L 1).head?.map es) (hp_I σ 8 4 (c + 17)) N (L 1).length σ L h rfl rfl (by omega) (by omega)
    refine ⟨σ', ?_, j1, m1⟩
    simp [f_Rs_spillWindow, f_Rs_spillWindow_25, ldI, ldR, r0, r1, h.c7 i1, h.w7 i1, h.s7 i1, hw, f1, h.earliest i1]
theorem fill_loop (N : Nat) (lim : Int32) : ∀ (i k : Nat) (σ : Hp) (L : Nat → List Nat), RI σ c es n wt L → hp_I σ 8 4 (c + 17) = lim → k = (L 2).length + (L 3).length → k < i → k < 2 ^ 31 → ∃ σ', f_Rs_fillWindow_16 N i (some (c + 17)) (nI k) σ = some σ' ∧ RI σ' c es n wt (fillL wt lim k L) ∧ M37 σ σ' := by
  intro i
  induction i with
  | zero => intro k σ L h _ hk hi; omega
  | succ i ih =>
    intro k σ L h hlim hk hi hlt
    cases k with
    | zero => exact ⟨σ, by simp [f_Rs_fillWindow_16, nI_0], h, M37.rf⟩
    | succ k =>
      have hne : ¬ (nI (k + 1) ≤ 0) := nI_nle (by omega) hlt
      have hk1 : nI (k + 1) + (-1) = nI k := pk_m1 k
      obtain ⟨r0, r1, r2, r3⟩ := h.1
      have hw := h.w7 i1
      cases hl : L 2 with
      | cons e l =>
        have he2 : hp_R σ 7 0 (rA c 2) = some (es e) := by rw [h.earliest i2, hl]; rfl
        have hen : e < n := h.lt i2 (by rw [hl]; exact List.mem_cons_self)
        have hwe := (h.2.2.2.2.1 e hen).2
        by_cases hwl : sw wt (L 1) + wt e ≤ lim
        · obtain ⟨σ2, f1, j2, m2⟩ := h.moveEarliest i2 i1 hl (v0 := some (c + 17))
          obtain ⟨σ', f3, j3, m3⟩ := ih k σ2 (mv L e 2 1) j2 (by rw [m2.2.2.2.2.1 _ _ _ (by decide)]; exact hlim) (by rw [mv_len hl (by decide), mv_o (by decide) (by decide)]; rw [hl] at hk; simp only [List.length_cons] at hk; omega) (by omega) (by omega)
          refine ⟨σ', ?_, ?_, m2.trans m3⟩
          · simp [f_Rs_fillWindow_16, f_Rs_fillWindow_41, hne, ldR, ldI, r0, r1, r2, h.c7 i1, h.c7 i2, hw, hwl, hlim, isO, f1, hk1, f3, he2, h.c3 hen, hwe]
          · have : fillL wt lim (k + 1) L = fillL wt lim k (mv L e 2 1) := by simp only [fillL, hl]; rw [if_pos hwl]
            rw [this]; exact j3
        · refine ⟨σ, ?_, ?_, M37.rf⟩
          · simp [f_Rs_fillWindow_16, f_Rs_fillWindow_41, hne, ldR, ldI, r0, r1, r2, h.c7 i1, h.c7 i2, hw, hwl, hlim, isO, he2, h.c3 hen, hwe]
          · have : fillL wt lim (k + 1) L = L := by simp only [fillL, hl]; rw [if_neg hwl]
            rw [this]; exact h
      | nil =>
        have he2 : hp_R σ 7 0 (rA c 2) = none := by rw [h.earliest i2, hl]; rfl
        cases hl3 : L 3 with
        | nil => rw [hl, hl3] at hk; cases hk
        | cons e l =>
          have he3 : hp_R σ 7 0 (rA c 3) = some (es e) := by rw [h.earliest i3, hl3]; rfl
          have hen : e < n := h.lt i3 (by rw [hl3]; exact List.mem_cons_self)
          have hwe := (h.2.2.2.2.1 e hen).2
          by_cases hwl : sw wt (L 1) + wt e ≤ lim
          · obtain ⟨σ2, f1, j2, m2⟩ := h.moveEarliest i3 i1 hl3 (v0 := some (c + 17))
            obtain ⟨σ', f3, j3, m3⟩ := ih k σ2 (mv L e 3 1) j2 (by rw [m2.2.2.2.2.1 _ _ _ (by decide)]; exact hlim) (by rw [mv_len hl3 (by decide), mv_o (by decide) (by decide)]; rw [hl3] at hk; simp only [List.length_cons] at hk; omega) (by omega) (by omega)
            refine ⟨σ', ?_, ?_, m2.trans m3⟩
            · simp [f_Rs_fillWindow_16, f_Rs_fillWindow_41, hne, ldR, ldI, r0, r1, r2, r3, h.c7 i1, h.c7 i2, h.c7 i3, hw, hwl, hlim, isO, f1, hk1, f3, he2, he3, h.c3 hen, hwe]
            · have : fillL wt lim (k + 1) L = fillL wt lim k (mv L e 3 1) := by simp only [fillL, hl, hl3]; rw [if_pos hwl]
              rw [this]; exact j3
          · refine ⟨σ, ?_, ?_, M37.rf⟩
            · simp [f_Rs_fillWindow_16, f_Rs_fillWindow_41, hne, ldR, ldI, r0, r1, r2, r3, h.c7 i1, h.c7 i2, h.c7 i3, hw, hwl, hlim, isO, he2, he3, h.c3 hen, hwe]
            · have : fillL wt lim (k + 1) L = L := by simp only [fillL, hl, hl3]; rw [if_neg hwl]
              rw [this]; exact h
theorem RI.fill (h : RI σ c es n wt L) {N : Nat} (hn : n ≤ 600) (hN : 2000 ≤ N) : ∃ σ', f_Rs_fillWindow N (some (c + 17)) σ = some σ' ∧ RI σ' c es n wt (fillL wt (hp_I σ 8 4 (c + 17)) ((L 2).length + (L 3).length) L) ∧ M37 σ σ' := by
  obtain ⟨r0, r1, r2, r3⟩ := h.1
  have hl2 := h.len i2
  have hl3 := h.len i3
  obtain ⟨σ', f1, j1, m1⟩ := fill_loop N (hp_I σ 8 4 (c + 17)) N ((L 2).length + (L 3).length) σ L h rfl rfl (by omega) (by omega)
  exact ⟨σ', by simp [f_Rs_fillWindow, ldI, ldR, r0, r2, r3, h.c7 i2, h.c7 i3, h.s7 i2, h.s7 i3, nI_add, f1], j1, m1⟩
/-! Room.keyAt -/
theorem keyAt_loop (h : RI σ c es n wt L) (N : Nat) {r : Nat} (hr : in3 r) (k : Nat) (hk : k < 2 ^ 31) : ∀ (i : Nat) (l1 l2 : List Nat), L r = l1 ++ l2 → l2.length < i → l1.length ≤ k → (L r).length < 2 ^ 31 → f_Ro_keyAt_21 N i (nI k) (nI l1.length) (l2.head?.map es) σ = some (match l2[k - l1.length]? with | some e => hp_I σ 3 0 (es e) | none => -1, σ) := by
  intro i
  induction i with
  | zero => intro l1 l2 _ h2; omega
  | succ i ih =>
    intro l1 l2 hl hi hk1 hB
    cases l2 with
    | nil => simp [f_Ro_keyAt_21]
    | cons e l =>
      have hen : e < n := h.lt hr (by rw [hl]; simp)
      have hlen : l1.length < 2 ^ 31 := by rw [hl] at hB; simp at hB; omega
      by_cases hek : l1.length = k
      · subst hek
        simp [f_Ro_keyAt_21, ldI, h.c3 hen]
      · have hne : ¬ nI l1.length = nI k := fun z => hek ((nI_eq hlen hk).mp z)
        have := ih (l1 ++ [e]) l (by rw [hl]; simp) (by simp at hi; omega) (by simp; omega) hB
        rw [List.length_append] at this
        simp only [List.length_cons, List.length_nil, Nat.zero_add] at this
        rw [← nI_1] at this
        simp only [f_Ro_keyAt_21, List.head?_cons, Option.map_some, reduceCtorEq, if_false, hne, ldR (h.c3 hen), Option.bind_some]
        rw [h.next hr hl, this]
        have : k - l1.length = (k - (l1.length + 1)) + 1 := by omega
        rw [this, List.getElem?_cons_succ]
theorem RI.keyAt (h : RI σ c es n wt L) {N : Nat} (hn : n ≤ 600) (hN : 1000 ≤ N) {r : Nat} (hr : in3 r) (k : Int32) : f_Ro_keyAt N (some (rA c r)) k σ = some (if k < 0 then -1 else match (L r)[k.toNatClampNeg]? with | some e => hp_I σ 3 0 (es e) | none => -1, σ) := by
  have hlr := h.len hr
  rcases pk_ix k (n := (L r).length) (by omega) with hk | hk | ⟨j, hj, rfl⟩
  · simp [f_Ro_keyAt, hk]
  · have h0 : ¬ k < 0 := fun z => by
      have h1 := nI_pos' (n := (L r).length) (by omega)
      rw [Int32.le_iff_toInt_le] at h1 hk
      rw [Int32.lt_iff_toInt_lt] at z
      omega
    have h1 : ¬ k < nI (L r).length := fun z => by
      rw [Int32.le_iff_toInt_le] at hk
      rw [Int32.lt_iff_toInt_lt] at z
      omega
    obtain ⟨j, hj, rfl⟩ := nI_of h0
    have h2 : (L r).length ≤ j := by
      rw [nI_leI (by omega) hj] at hk; exact hk
    rw [nI_clamp hj, List.getElem?_eq_none h2]
    simp [f_Ro_keyAt, h0, ldI, h.c7 hr, h.s7 hr, h1]
  · have h0 := nI_pos (n := j) (by omega)
    have h1 : nI j < nI (L r).length := nI_lt hj (by omega)
    have := keyAt_loop h N hr j (by omega) N [] (L r) rfl (by omega) (by simp) (by omega)
    simp only [List.length_nil, nI_0, Nat.sub_zero] at this
    rw [nI_clamp (by omega)]
    simp only [f_Ro_keyAt, h0, if_false, ldI (h.c7 hr), ldR (h.c7 hr), h.s7 hr, h1, if_true, Option.bind_some]
    rw [h.earliest hr, this]
/-! firstOver -/
def gbf (en : Nat → Int64) (ky : Nat → Int32) (a : Nat) : Option Nat → Prop
  | none => True
  | some b => en a < en b ∨ (en a = en b ∧ ky a < ky b)
end RO
