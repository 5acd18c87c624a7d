/-! THE CLASS's ROOMS, by entry numbers: es e is the address of the entry e, wt e its weight, L r the entries of the room r (1 window, 2 probation, 3 protected) -/
def rA (c r : Nat) : Nat := c + 17 + r
theorem rA_ne {c r q : Nat} (h : r ≠ q) : rA c r ≠ rA c q := by unfold rA; omega
def upL (L : Nat → List Nat) (r : Nat) (l : List Nat) : Nat → List Nat := fun q => if q = r then l else L q
theorem upL_s {L : Nat → List Nat} {r : Nat} {l : List Nat} : upL L r l r = l := by simp [upL]
theorem upL_n {L : Nat → List Nat} {r q : Nat} {l : List Nat} (h : q ≠ r) : upL L r l q = L q := by simp [upL, h]
def in3 (r : Nat) : Prop := 1 ≤ r ∧ r ≤ 3
/-- the object that holds the rooms -/
def R0 (σ : Hp) (c : Nat) : Prop := hp_C σ (c + 17) = some 8 ∧ hp_R σ 8 1 (c + 17) = some (rA c 1) ∧ hp_R σ 8 2 (c + 17) = some (rA c 2) ∧ hp_R σ 8 3 (c + 17) = some (rA c 3)
def RI (σ : Hp) (c : Nat) (es : Nat → Nat) (n : Nat) (wt : Nat → Int32) (L : Nat → List Nat) : Prop :=
  R0 σ c ∧ (∀ r, in3 r → Chn σ (rA c r) ((L r).map es) ∧ hp_I σ 7 2 (rA c r) = sw wt (L r)) ∧ (∀ r q, in3 r → in3 q → r ≠ q → ∀ e ∈ L r, e ∉ L q) ∧ (∀ r, in3 r → ∀ e ∈ L r, e < n) ∧ (∀ e, e < n → hp_C σ (es e) = some 3 ∧ hp_I σ 3 2 (es e) = wt e) ∧ (∀ e, e < n → (∀ r, in3 r → e ∉ L r) → hp_R σ 3 8 (es e) = none) ∧ ∀ e d, e < n → d < n → es e = es d → e = d
theorem R0.m37 {σ σ' : Hp} {c : Nat} (h : R0 σ c) (m : M37 σ σ') : R0 σ' c := by
  obtain ⟨h1, h2, h3, h4⟩ := h
  obtain ⟨a1, a2, a3, a4, a5, a6, a7⟩ := m
  exact ⟨by rw [a2]; exact h1, by rw [a6 _ _ _ (by decide) (by decide)]; exact h2, by rw [a6 _ _ _ (by decide) (by decide)]; exact h3, by rw [a6 _ _ _ (by decide) (by decide)]; exact h4⟩
theorem Chn.off {σ σ' : Hp} {ra qa : Nat} {l k : List Nat} (h : Chn σ qa k) (o : Off σ σ' ra l) (hq : qa ≠ ra) (hd : ∀ b ∈ k, b ∉ l) : Chn σ' qa k := by
  obtain ⟨c1, c2, c3, c4, c5, c6⟩ := h
  obtain ⟨m, o1, o2, o3⟩ := o
  refine ⟨by rw [m.2.1]; exact c1, by rw [o2 _ _ hq]; exact c2, by rw [o2 _ _ hq]; exact c3, by rw [o3 _ _ hq]; exact c4, seg_congr (fun b hb => ?_) c5, c6⟩
  exact ⟨m.2.1 b, o1 _ b (hd b hb), o1 _ b (hd b hb), o1 _ b (hd b hb)⟩
theorem RI.nd {σ : Hp} {c n : Nat} {es : Nat → Nat} {wt : Nat → Int32} {L : Nat → List Nat} (h : RI σ c es n wt L) {r : Nat} (hr : in3 r) : (L r).Nodup := List.Pairwise.of_map es (fun a b h z => h (by rw [z])) (h.2.1 r hr).1.2.2.2.2.2
theorem RI.inR {σ : Hp} {c n : Nat} {es : Nat → Nat} {wt : Nat → Int32} {L : Nat → List Nat} (h : RI σ c es n wt L) {r e : Nat} (hr : in3 r) (he : e ∈ L r) : hp_R σ 3 8 (es e) = some (rA c r) := (seg_mem (h.2.1 r hr).1.2.2.2.2.1 _ (List.mem_map_of_mem he)).2
theorem RI.apart {σ : Hp} {c n : Nat} {es : Nat → Nat} {wt : Nat → Int32} {L : Nat → List Nat} (h : RI σ c es n wt L) {r q : Nat} (hr : in3 r) (hq : in3 q) (hne : r ≠ q) : ∀ b ∈ (L r).map es, b ∉ (L q).map es := by
  intro b hb hb'
  obtain ⟨e, he, rfl⟩ := List.mem_map.mp hb
  obtain ⟨d, hd, hed⟩ := List.mem_map.mp hb'
  have := h.2.2.2.2.2.2 d e (h.2.2.2.1 q hq d hd) (h.2.2.2.1 r hr e he) hed
  subst this
  exact h.2.2.1 r q hr hq hne _ he hd
theorem RI.cut {σ : Hp} {c n : Nat} {es : Nat → Nat} {wt : Nat → Int32} {L : Nat → List Nat} (h : RI σ c es n wt L) {r e : Nat} (hr : in3 r) (he : e ∈ L r) :
    ∃ σ', f_Ro_cutOut (some (rA c r)) (some (es e)) σ = some σ' ∧ RI σ' c es n wt (upL L r ((L r).erase e)) ∧ M37 σ σ' := by
  have hnd := h.nd hr
  obtain ⟨l1, l2, hl⟩ := List.append_of_mem he
  have he1 : e ∉ l1 := fun z => by
    rw [hl] at hnd
    exact (List.nodup_append.mp hnd).2.2 e z e List.mem_cons_self rfl
  have her : (L r).erase e = l1 ++ l2 := by
    rw [hl, List.erase_append_right _ he1, List.erase_cons_head]
  obtain ⟨hC, hW⟩ := h.2.1 r hr
  have hm : (L r).map es = l1.map es ++ es e :: l2.map es := by rw [hl]; simp
  rw [hm] at hC
  obtain ⟨σ', hf, hC', hw', h8, hoff⟩ := cutOut_ok hC
  have hen : e < n := h.2.2.2.1 r hr e he
  obtain ⟨hce, hwe⟩ := h.2.2.2.2.1 e hen
  refine ⟨σ', hf, ⟨h.1.m37 hoff.1, ?_, ?_, ?_, ?_, ?_, h.2.2.2.2.2.2⟩, hoff.1⟩
  · intro q hq
    by_cases hqr : q = r
    · subst hqr
      rw [upL_s, her, List.map_append]
      refine ⟨hC', ?_⟩
      rw [hw', hW, hwe, hl, sw_mid, Int32.add_sub_cancel]
    · rw [upL_n hqr]
      refine ⟨(h.2.1 q hq).1.off hoff (rA_ne hqr) ?_, ?_⟩
      · rw [← hm]; exact h.apart hq hr hqr
      · rw [hoff.2.2.2 _ _ (rA_ne hqr)]; exact (h.2.1 q hq).2
  · intro q k hq hk hne d hd
    by_cases hqr : q = r
    · subst hqr
      rw [upL_s] at hd
      rw [upL_n (Ne.symm hne)]
      exact h.2.2.1 q k hq hk hne d (List.mem_of_mem_erase hd)
    · rw [upL_n hqr] at hd
      by_cases hkr : k = r
      · subst hkr
        rw [upL_s]
        exact fun z => h.2.2.1 q k hq hk hne d hd (List.mem_of_mem_erase z)
      · rw [upL_n hkr]
        exact h.2.2.1 q k hq hk hne d hd
  · intro q hq d hd
    by_cases hqr : q = r
    · subst hqr
      rw [upL_s] at hd
      exact h.2.2.2.1 q hq d (List.mem_of_mem_erase hd)
    · rw [upL_n hqr] at hd
      exact h.2.2.2.1 q hq d hd
  · intro d hd
    rw [hoff.1.2.1, hoff.1.2.2.2.2.1 _ _ _ (by decide)]
    exact h.2.2.2.2.1 d hd
  · intro d hd hno
    by_cases hde : d = e
    · subst hde; exact h8
    · have hno' : ∀ q, in3 q → d ∉ L q := by
        intro q hq z
        by_cases hqr : q = r
        · subst hqr
          exact hno q hq (by rw [upL_s]; exact (List.mem_erase_of_ne hde).mpr z)
        · exact hno q hq (by rw [upL_n hqr]; exact z)
      rw [hoff.2.1 8 (es d) (by
        rw [← hm]
        intro z
        obtain ⟨x, hx, hxe⟩ := List.mem_map.mp z
        have := h.2.2.2.2.2.2 x d (h.2.2.2.1 r hr x hx) hd hxe
        subst this
        exact hno' r hr hx)]
      exact h.2.2.2.2.2.1 d hd hno'
theorem RI.add {σ : Hp} {c n : Nat} {es : Nat → Nat} {wt : Nat → Int32} {L : Nat → List Nat} (h : RI σ c es n wt L) {r e : Nat} (hr : in3 r) (hen : e < n) (hno : ∀ q, in3 q → e ∉ L q) :
    ∃ σ', f_Ro_addLatest (some (rA c r)) (some (es e)) σ = some σ' ∧ RI σ' c es n wt (upL L r (L r ++ [e])) ∧ M37 σ σ' := by
  obtain ⟨hC, hW⟩ := h.2.1 r hr
  obtain ⟨hce, hwe⟩ := h.2.2.2.2.1 e hen
  have hnot : ∀ q, in3 q → es e ∉ (L q).map es := by
    intro q hq z
    obtain ⟨x, hx, hxe⟩ := List.mem_map.mp z
    have := h.2.2.2.2.2.2 x e (h.2.2.2.1 q hq x hx) hen hxe
    subst this
    exact hno q hq hx
  obtain ⟨σ', hf, hC', hw', hoff⟩ := addLatest_ok hC hce (hnot r hr)
  refine ⟨σ', hf, ⟨h.1.m37 hoff.1, ?_, ?_, ?_, ?_, ?_, h.2.2.2.2.2.2⟩, hoff.1⟩
  · intro q hq
    by_cases hqr : q = r
    · subst hqr
      rw [upL_s, List.map_append]
      refine ⟨hC', ?_⟩
      rw [hw', hW, hwe, sw_app]
      simp [sw]
    · rw [upL_n hqr]
      refine ⟨(h.2.1 q hq).1.off hoff (rA_ne hqr) ?_, ?_⟩
      · intro b hb z
        rcases List.mem_append.mp z with z | z
        · exact h.apart hq hr hqr b hb z
        · have : b = es e := by simpa using z
          exact hnot q hq (this ▸ hb)
      · rw [hoff.2.2.2 _ _ (rA_ne hqr)]; exact (h.2.1 q hq).2
  · intro q k hq hk hne d hd
    by_cases hqr : q = r
    · subst hqr
      rw [upL_s] at hd
      rw [upL_n (Ne.symm hne)]
      rcases List.mem_append.mp hd with hd | hd
      · exact h.2.2.1 q k hq hk hne d hd
      · have : d = e := by simpa using hd
        subst this
        exact hno k hk
    · rw [upL_n hqr] at hd
      by_cases hkr : k = r
      · subst hkr
        rw [upL_s]
        intro z
        rcases List.mem_append.mp z with z | z
        · exact h.2.2.1 q k hq hk hne d hd z
        · have : d = e := by simpa using z
          subst this
          exact hno q hq hd
      · rw [upL_n hkr]
        exact h.2.2.1 q k hq hk hne d hd
  · intro q hq d hd
    by_cases hqr : q = r
    · subst hqr
      rw [upL_s] at hd
      rcases List.mem_append.mp hd with hd | hd
      · exact h.2.2.2.1 q hq d hd
      · have : d = e := by simpa using hd
        subst this
        exact hen
    · rw [upL_n hqr] at hd
      exact h.2.2.2.1 q hq d hd
  · intro d hd
    rw [hoff.1.2.1, hoff.1.2.2.2.2.1 _ _ _ (by decide)]
    exact h.2.2.2.2.1 d hd
  · intro d hd hno2
    have hde : d ≠ e := fun z => hno2 r hr (by rw [upL_s, z]; simp)
    have hno' : ∀ q, in3 q → d ∉ L q := by
      intro q hq z
      by_cases hqr : q = r
      · subst hqr
        exact hno2 q hq (by rw [upL_s]; exact List.mem_append_left _ z)
      · exact hno2 q hq (by rw [upL_n hqr]; exact z)
    rw [hoff.2.1 8 (es d) (by
      intro z
      rcases List.mem_append.mp z with z | z
      · obtain ⟨x, hx, hxe⟩ := List.mem_map.mp z
        have := h.2.2.2.2.2.2 x d (h.2.2.2.1 r hr x hx) hd hxe
        subst this
        exact hno' r hr hx
      · have : es d = es e := by simpa using z
        exact hde (h.2.2.2.2.2.2 d e hd hen this))]
    exact h.2.2.2.2.2.1 d hd hno'
