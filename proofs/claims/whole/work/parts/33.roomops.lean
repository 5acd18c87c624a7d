/-! what the rooms' methods do, on lists -/
theorem erase_head (e : Nat) (l : List Nat) : (e :: l).erase e = l := List.erase_cons_head ..
/-- an entry is moved from the room q to the end of the room r -/
def mv (L : Nat → List Nat) (e q r : Nat) : Nat → List Nat := upL (upL L q ((L q).erase e)) r ((upL L q ((L q).erase e)) r ++ [e])
section RO
variable {σ : Hp} {c n : Nat} {es : Nat → Nat} {wt : Nat → Int32} {L : Nat → List Nat}
theorem RI.cutOut_no (h : RI σ c es n wt L) {r e : Nat} (hr : in3 r) (he : e ∈ L r) : ∀ q, in3 q → e ∉ upL L r ((L r).erase e) q := by
  intro q hq z
  by_cases hqr : q = r
  · subst hqr
    rw [upL_s] at z
    exact (List.Nodup.not_mem_erase (h.nd hq)) z
  · rw [upL_n hqr] at z
    exact h.2.2.1 r q hr hq (Ne.symm hqr) e he z
theorem RI.move (h : RI σ c es n wt L) {q r e : Nat} (hq : in3 q) (hr : in3 r) (he : e ∈ L q) :
    ∃ σ1 σ2, f_Ro_cutOut (some (rA c q)) (some (es e)) σ = some σ1 ∧ f_Ro_addLatest (some (rA c r)) (some (es e)) σ1 = some σ2 ∧ M37 σ σ1 ∧ RI σ1 c es n wt (upL L q ((L q).erase e)) ∧ RI σ2 c es n wt (mv L e q r) ∧ M37 σ σ2 := by
  obtain ⟨σ1, f1, i1, m1⟩ := h.cut hq he
  obtain ⟨σ2, f2, i2, m2⟩ := i1.add hr (h.2.2.2.1 q hq e he) (h.cutOut_no hq he)
  exact ⟨σ1, σ2, f1, f2, m1, i1, i2, m1.trans m2⟩
theorem RI.earliest (h : RI σ c es n wt L) {r : Nat} (hr : in3 r) : hp_R σ 7 0 (rA c r) = (L r).head?.map es := by
  rw [(h.2.1 r hr).1.2.1]
  cases L r <;> rfl
theorem RI.c7 (h : RI σ c es n wt L) {r : Nat} (hr : in3 r) : hp_C σ (rA c r) = some 7 := (h.2.1 r hr).1.1
theorem RI.w7 (h : RI σ c es n wt L) {r : Nat} (hr : in3 r) : hp_I σ 7 2 (rA c r) = sw wt (L r) := (h.2.1 r hr).2
theorem RI.s7 (h : RI σ c es n wt L) {r : Nat} (hr : in3 r) : hp_I σ 7 3 (rA c r) = nI (L r).length := by
  rw [(h.2.1 r hr).1.2.2.2.1, List.length_map]
theorem i1 : in3 1 := ⟨by decide, by decide⟩
theorem i2 : in3 2 := ⟨by decide, by decide⟩
theorem i3 : in3 3 := ⟨by decide, by decide⟩
theorem RI.moveEarliest (h : RI σ c es n wt L) {q r : Nat} (hq : in3 q) (hr : in3 r) {e : Nat} {l : List Nat} (hl : L q = e :: l) {v0 : Option Nat} :
    ∃ σ', f_Rs_moveEarliest v0 (some (rA c q)) (some (rA c r)) σ = some σ' ∧ RI σ' c es n wt (mv L e q r) ∧ M37 σ σ' := by
  obtain ⟨σ1, σ2, f1, f2, m1, j1, j2, m2⟩ := h.move hq hr (e := e) (by rw [hl]; exact List.mem_cons_self)
  refine ⟨σ2, ?_, j2, m2⟩
  have he : hp_R σ 7 0 (rA c q) = some (es e) := by rw [h.earliest hq, hl]; rfl
  simp [f_Rs_moveEarliest, ldR, h.c7 hq, he, isO, f1, f2, j1.c7 hr]
/-- Rooms.trimShielded and the reference's lower -/
def trimL (wt : Nat → Int32) (lim : Int32) : Nat → (Nat → List Nat) → Nat → List Nat
  | 0, L => L
  | k + 1, L => match L 3 with
    | [] => L
    | e :: _ => if sw wt (L 3) ≤ lim then L else trimL wt lim k (mv L e 3 2)
theorem ofNat_le0 {k : Nat} (h : k < 2 ^ 31) : (nI k ≤ 0) ↔ k = 0 := by
  constructor
  · intro z
    rcases Nat.eq_zero_or_pos k with q | q
    · exact q
    · exact absurd z (nI_nle q h)
  · intro z; subst z; decide
theorem mv_len {L : Nat → List Nat} {e : Nat} {l : List Nat} {q r : Nat} (hl : L q = e :: l) (hqr : q ≠ r) : (mv L e q r q).length = l.length := by
  unfold mv
  rw [upL_n hqr, upL_s, hl, erase_head]
theorem mv_q {L : Nat → List Nat} {e : Nat} {l : List Nat} {q r : Nat} (hl : L q = e :: l) (hqr : q ≠ r) : mv L e q r q = l := by
  unfold mv
  rw [upL_n hqr, upL_s, hl, erase_head]
theorem trim_loop (N : Nat) (lim : Int32) : ∀ (i k : Nat) (σ : Hp) (L : Nat → List Nat), RI σ c es n wt L → k = (L 3).length → k < i → k < 2 ^ 31 → ∃ σ', f_Rs_trimShielded_22 N i (some (c + 17)) lim (nI k) σ = some σ' ∧ RI σ' c es n wt (trimL wt lim k L) ∧ M37 σ σ' := by
  intro i
  induction i with
  | zero => intro k σ L h hk hi; omega
  | succ i ih =>
    intro k σ L h hk hi hlt
    cases k with
    | zero => exact ⟨σ, by simp [f_Rs_trimShielded_22, nI_0], h, M37.rf⟩
    | succ k =>
      have hne : ¬ (nI (k + 1) ≤ 0) := fun z => by have := (ofNat_le0 hlt).mp z; omega
      cases hl : L 3 with
      | nil => rw [hl] at hk; cases hk
      | cons e l =>
        obtain ⟨r0, r1, r2, r3⟩ := h.1
        have hw := h.w7 i3
        by_cases hwl : sw wt (L 3) ≤ lim
        · refine ⟨σ, ?_, ?_, M37.rf⟩
          · simp [f_Rs_trimShielded_22, hne, ldR, ldI, r0, r3, h.c7 i3, hw, hwl]
          · have : trimL wt lim (k + 1) L = L := by simp only [trimL, hl]; rw [hl] at hwl; rw [if_pos hwl]
            rw [this]; exact h
        · obtain ⟨σ1, σ2, f1, f2, m1, j1, j2, m2⟩ := h.move i3 i2 (e := e) (by rw [hl]; exact List.mem_cons_self)
          have he : hp_R σ 7 0 (rA c 3) = some (es e) := by rw [h.earliest i3, hl]; rfl
          have q2 : hp_R σ1 8 2 (c + 17) = some (rA c 2) := j1.1.2.2.1
          obtain ⟨σ', f3, j3, m3⟩ := ih k σ2 (mv L e 3 2) j2 (by rw [mv_len hl (by decide)]; rw [hl] at hk; simpa using hk) (by omega) (by omega)
          refine ⟨σ', ?_, ?_, m2.trans m3⟩
          · have hk1 : nI (k + 1) + (-1) = nI k := pk_m1 k
            simp [f_Rs_trimShielded_22, hne, ldR, ldI, r0, r3, h.c7 i3, hw, hwl, he, isO, f1, q2, j1.1.1, j1.c7 i2, f2, hk1, f3]
          · have : trimL wt lim (k + 1) L = trimL wt lim k (mv L e 3 2) := by simp only [trimL, hl]; rw [hl] at hwl; rw [if_neg hwl]
            rw [this]; exact j3
theorem RI.trim (h : RI σ c es n wt L) {N : Nat} (hN : (L 3).length < N) (hB : (L 3).length < 2 ^ 31) : ∃ σ', f_Rs_trimShielded N (some (c + 17)) σ = some σ' ∧ RI σ' c es n wt (trimL wt ((hp_I σ 8 0 (c + 17) - hp_I σ 8 4 (c + 17)) * 4 / 5) (L 3).length L) ∧ M37 σ σ' := by
  obtain ⟨σ', f1, j1, m1⟩ := trim_loop N ((hp_I σ 8 0 (c + 17) - hp_I σ 8 4 (c + 17)) * 4 / 5) N (L 3).length σ L h rfl hN hB
  refine ⟨σ', ?_, j1, m1⟩
  simp [f_Rs_trimShielded, ldI, ldR, h.1.1, h.1.2.2.2, h.c7 i3, h.s7 i3, f1]
end RO
