/-! WHAT THE CLASS's WORLD AND THE REFERENCE's HAVE TO DO WITH EACH OTHER -/
def mpo (s : RS) (k : Nat) : Option Nat := if ga s 6 k = -1 then none else some (ga s 6 k).toNatClampNeg
def fe (s : RS) (e : Nat) : Int64 := if 0 < ga s 14 e then gb s 17 e + (ga s 14 e).toInt64 else if 0 < gi s 2 then gb s 17 e + (gi s 2).toInt64 else 4611686018427387904
def lbt (s : RS) (e : Nat) : Int32 := if 0 < ga s 14 e then 0 else if 0 < gi s 3 then 1 else 0
def en (s : RS) (e : Nat) : Int64 := if lbt s e = 0 then fe s e else lmin_ (fe s e) (gb s 18 e + (gi s 3).toInt64)
def posI (w : Int32) : Int32 := if 0 ≤ w then w else 0
/-- the skeleton -/
def SK (σ : Hp) (c : Nat) : Prop := hp_C σ c = some 0 ∧ hp_R σ 0 0 c = some (c + 1) ∧ hp_R σ 0 1 c = some (c + 2) ∧ hp_R σ 0 2 c = some (c + 3) ∧ hp_R σ 0 3 c = some (c + 5) ∧ hp_R σ 0 4 c = some (c + 7) ∧ hp_R σ 0 5 c = some (c + 10) ∧ hp_R σ 0 6 c = some (c + 14) ∧ hp_R σ 0 7 c = some (c + 15) ∧ hp_R σ 0 8 c = some (c + 17) ∧ hp_R σ 0 9 c = some (c + 21) ∧ hp_C σ (c + 3) = some 6 ∧ hp_C σ (c + 5) = some 6 ∧ hp_C σ (c + 7) = some 9 ∧ hp_C σ (c + 10) = some 5 ∧ hp_C σ (c + 14) = some 4 ∧ hp_C σ (c + 21) = some 1 ∧ hp_R σ 6 0 (c + 3) = some (c + 4) ∧ hp_R σ 6 0 (c + 5) = some (c + 6) ∧ hp_R σ 9 0 (c + 7) = some (c + 8) ∧ hp_R σ 9 1 (c + 7) = some (c + 9) ∧ hp_R σ 5 0 (c + 10) = some (c + 11) ∧ hp_R σ 5 1 (c + 10) = some (c + 12) ∧ hp_R σ 5 2 (c + 10) = some (c + 13)
/-- the numbers -/
def SCa (σ : Hp) (c : Nat) (s : RS) : Prop := hp_I σ 0 10 c = gi s 35 ∧ hp_I σ 0 11 c = gi s 41 ∧ hp_I σ 0 12 c = gi s 42 ∧ hp_I σ 0 13 c = gi s 43 ∧ hp_I σ 0 14 c = gi s 44 ∧ posI (hp_I σ 4 0 (c + 14)) = gi s 2 ∧ posI (hp_I σ 4 1 (c + 14)) = gi s 3 ∧ hp_L σ 4 2 (c + 14) = gl s 5 ∧ hp_I σ 8 0 (c + 17) = gi s 1 ∧ hp_I σ 8 4 (c + 17) = gi s 32 ∧ hp_I σ 6 2 (c + 3) + hp_I σ 6 2 (c + 5) = gi s 28
def SCb (σ : Hp) (c : Nat) (s : RS) : Prop := hp_I σ 1 0 (c + 21) = 10 * gi s 1 ∧ hp_I σ 1 1 (c + 21) = imax_ 1 (gi s 1 / 16) ∧ hp_I σ 1 2 (c + 21) = gi s 37 ∧ hp_I σ 1 3 (c + 21) = gi s 38 ∧ hp_I σ 1 4 (c + 21) = gi s 37 - gi s 39 ∧ hp_I σ 1 5 (c + 21) = gi s 37 + gi s 38 - (gi s 39 + gi s 40) ∧ hp_I σ 1 6 (c + 21) = gi s 34 ∧ hp_I σ 1 7 (c + 21) = gi s 33 ∧ hp_I σ 1 8 (c + 21) = gi s 36
/-- the entries -/
def EN (σ : Hp) (es : Nat → Nat) (n : Nat) (s : RS) : Prop := ∀ e, e < n → hp_I σ 3 0 (es e) = ga s 11 e ∧ hp_I σ 3 1 (es e) = ga s 12 e ∧ hp_I σ 3 3 (es e) = ga s 16 e ∧ hp_I σ 3 7 (es e) = (if ga s 20 e = 0 then 1 else 0) ∧ hp_L σ 3 5 (es e) = en s e ∧ hp_L σ 3 4 (es e) = fe s e ∧ hp_I σ 3 6 (es e) = lbt s e
def MP (σ : Hp) (c : Nat) (es : Nat → Nat) (s : RS) : Prop := ∃ f, hp_A σ (c + 1) = some (3, 1000, .inr (.inr (.inr (.inr f)))) ∧ ∀ k, k < 1000 → f k = (mpo s k).map es
def WYk (σ : Hp) (es : Nat → Nat) (n : Nat) (s : RS) (k : Nat) (x : Option Nat) : Prop := (ga s 7 k = 0 ∧ x = none) ∨ ∃ a, x = some a ∧ hp_C σ a = some 10 ∧ a < hp_N σ ∧ ((ga s 7 k = 1 ∧ hp_R σ 10 0 a = none) ∨ (ga s 7 k = 2 ∧ ∃ e, e < n ∧ ga s 8 k = nI e ∧ hp_R σ 10 0 a = some (es e) ∧ hp_I σ 10 1 a = ga s 9 k))
def WY (σ : Hp) (c : Nat) (es : Nat → Nat) (n : Nat) (s : RS) : Prop := ∃ f, hp_A σ (c + 2) = some (4, 1000, .inr (.inr (.inr (.inr f)))) ∧ ∀ k, k < 1000 → WYk σ es n s k (f k)
def LGt (σ : Hp) (c : Nat) (s : RS) : Prop := hp_I σ 5 3 (c + 10) = gi s 45 ∧ (∃ t, t ≤ 500 ∧ gi s 45 = nI t) ∧ hp_A σ (c + 11) = some (0, 500, .inl (ga s 46)) ∧ hp_A σ (c + 12) = some (0, 500, .inl (ga s 47)) ∧ hp_A σ (c + 13) = some (0, 500, .inl (ga s 48))
def Out (σ : Hp) (c o : Nat) : Prop := (∃ f, hp_A σ o = some (1, 1, .inr (.inl f))) ∧ c + 21 < o
def AD (σ : Hp) (c : Nat) (es : Nat → Nat) (n : Nat) : Prop := c + 21 < hp_N σ ∧ ∀ e, e < n → es e < hp_N σ
/-- the reference's own sense -/
def WFa (s : RS) (n : Nat) : Prop := (∀ e, e < n → ∃ k, k < 1000 ∧ ga s 11 e = nI k) ∧ (∀ e, e < n → ∃ w, 1 ≤ w ∧ w ≤ 1000 ∧ ga s 13 e = nI w) ∧ (∀ k, k < 1000 → ga s 6 k = -1 ∨ ∃ e, e < n ∧ ga s 6 k = nI e ∧ ga s 11 e = nI k ∧ ga s 20 e = 1) ∧ (∀ e, e < n → ga s 20 e = 0 ∨ ga s 20 e = 1) ∧ (∀ e k, e < n → k < 1000 → ga s 20 e = 1 → ga s 11 e = nI k → ga s 6 k = nI e) ∧ (∀ e, e < n → fe s e ≤ 4611686018427387904)
def WFb (s : RS) (n Q : Nat) (V : Nat → Int32) : Prop := (0 ≤ (gl s 5).toInt ∧ (gl s 5).toInt ≤ 1099511627776) ∧ (∃ mx w st r a d, gi s 1 = nI mx ∧ 1 ≤ mx ∧ mx ≤ 5000 ∧ gi s 32 = nI w ∧ 1 ≤ w ∧ w ≤ mx ∧ gi s 33 = nI st ∧ 1 ≤ st ∧ st ≤ 5000 ∧ gi s 34 = nI r ∧ r ≤ 1000 ∧ gi s 39 = nI a ∧ gi s 40 = nI d ∧ a + d ≤ Q) ∧ (gi s 36 = 0 ∨ gi s 36 = 1) ∧ 0 ≤ gi s 2 ∧ 0 ≤ gi s 3 ∧ n ≤ Q ∧ Q ≤ 599 ∧ (∀ e, e < 1999 → ga s 12 e = V e) ∧ (∀ k, V (2000 + k) = 1 → ga s 6 k = -1) ∧ gi s 0 = V 1999
/-- all but rooms, notes and tasks -/
def Rest (c : Nat) (o : Nat × (Nat → Int32)) (es : Nat → Nat) (n Q z : Nat) (W : Nat → Int32) (σ : Hp) (s : RS) : Prop := SK σ c ∧ SCa σ c s ∧ SCb σ c s ∧ EN σ es n s ∧ MP σ c es s ∧ WY σ c es n s ∧ LGt σ c s ∧ CTT σ c s z W ∧ Out σ c o.1 ∧ AD σ c es n ∧ WFa s n ∧ WFb s n Q o.2
/-- the notes of a side, from the i-th on -/
def Nt (c : Nat) (es : Nat → Nat) (n : Nat) (σ : Hp) (s : RS) (d i : Nat) : Prop := ∃ (t : Nat) (q : Nat → Nat) (f : Nat → Option Nat), i ≤ t ∧ t ≤ 16 ∧ ga s 24 d = nI t ∧ hp_I σ 6 1 (c + 3 + 2 * d) = nI t ∧ hp_A σ (c + 4 + 2 * d) = some (3, 16, .inr (.inr (.inr (.inr f)))) ∧ ∀ j, i ≤ j → j < t → q j < n ∧ f j = some (es (q j)) ∧ ga s 23 (16 * d + j) = nI (q j)
/-- the tasks, from the i-th on -/
def Tk (c : Nat) (es : Nat → Nat) (n : Nat) (L : Nat → List Nat) (σ : Hp) (s : RS) (t i : Nat) : Prop := i ≤ t ∧ t ≤ 8 ∧ gi s 27 = nI t ∧ hp_I σ 9 2 (c + 7) = nI t ∧ hp_A σ (c + 9) = some (0, 8, .inl (ga s 25)) ∧ ∃ (q kd : Nat → Nat) (f : Nat → Option Nat), hp_A σ (c + 8) = some (3, 8, .inr (.inr (.inr (.inr f)))) ∧ (∀ j, i ≤ j → j < t → q j < n ∧ kd j ≤ 2 ∧ f j = some (es (q j)) ∧ ga s 25 j = nI (kd j) ∧ ga s 26 j = nI (q j)) ∧ (∀ j, i ≤ j → j < t → kd j = 0 → ∀ r, in3 r → q j ∉ L r) ∧ (∀ j l, i ≤ j → j < t → i ≤ l → l < t → kd j = 0 → kd l = 0 → q j = q l → j = l) ∧ ∀ e r, e < n → in3 r → e ∈ L r → ga s 20 e = 0 → ∃ j, i ≤ j ∧ j < t ∧ kd j = 2 ∧ q j = e
/-- all of it -/
def Sim (c : Nat) (o : Nat × (Nat → Int32)) (es : Nat → Nat) (n Q z : Nat) (W : Nat → Int32) (L : Nat → List Nat) (B t : Nat) (σ : Hp) (s : RS) : Prop := Rest c o es n Q z W σ s ∧ RI σ c es n (ga s 13) L ∧ RR s n L B ∧ Nt c es n σ s 0 0 ∧ Nt c es n σ s 1 0 ∧ Tk c es n L σ s t 0
section FR
variable {c n Q z t : Nat} {o : Nat × (Nat → Int32)} {es : Nat → Nat} {W : Nat → Int32} {L L' : Nat → List Nat} {σ σ' : Hp} {s s' : RS}
theorem ends_congr (h14 : ∀ e, ga s' 14 e = ga s 14 e) (h2 : gi s' 2 = gi s 2) (h3 : gi s' 3 = gi s 3) (h17 : ∀ e, gb s' 17 e = gb s 17 e) (h18 : ∀ e, gb s' 18 e = gb s 18 e) : (∀ e, fe s' e = fe s e) ∧ (∀ e, lbt s' e = lbt s e) ∧ ∀ e, en s' e = en s e := by
  have f1 : ∀ e, fe s' e = fe s e := fun e => by unfold fe; rw [h14, h2, h17]
  have f2 : ∀ e, lbt s' e = lbt s e := fun e => by unfold lbt; rw [h14, h3]
  exact ⟨f1, f2, fun e => by unfold en; rw [f1, f2, h18, h3]⟩
theorem Rest.m37 (h : Rest c o es n Q z W σ s) (m : M37 σ σ') (r : RM s s') : Rest c o es n Q z W σ' s' := by
  obtain ⟨m1, m2, m3, m4, m5, m6, m7⟩ := m
  obtain ⟨r1, r2, r3, r4⟩ := r
  have I0 : ∀ k a, hp_I σ' 0 k a = hp_I σ 0 k a := fun k a => m5 0 k a (by decide)
  have I1 : ∀ k a, hp_I σ' 1 k a = hp_I σ 1 k a := fun k a => m5 1 k a (by decide)
  have I2 : ∀ k a, hp_I σ' 2 k a = hp_I σ 2 k a := fun k a => m5 2 k a (by decide)
  have I3 : ∀ k a, hp_I σ' 3 k a = hp_I σ 3 k a := fun k a => m5 3 k a (by decide)
  have I4 : ∀ k a, hp_I σ' 4 k a = hp_I σ 4 k a := fun k a => m5 4 k a (by decide)
  have I5 : ∀ k a, hp_I σ' 5 k a = hp_I σ 5 k a := fun k a => m5 5 k a (by decide)
  have I6 : ∀ k a, hp_I σ' 6 k a = hp_I σ 6 k a := fun k a => m5 6 k a (by decide)
  have I8 : ∀ k a, hp_I σ' 8 k a = hp_I σ 8 k a := fun k a => m5 8 k a (by decide)
  have I10 : ∀ k a, hp_I σ' 10 k a = hp_I σ 10 k a := fun k a => m5 10 k a (by decide)
  have R0 : ∀ k a, hp_R σ' 0 k a = hp_R σ 0 k a := fun k a => m6 0 k a (by decide) (by decide)
  have R2 : ∀ k a, hp_R σ' 2 k a = hp_R σ 2 k a := fun k a => m6 2 k a (by decide) (by decide)
  have R5 : ∀ k a, hp_R σ' 5 k a = hp_R σ 5 k a := fun k a => m6 5 k a (by decide) (by decide)
  have R6 : ∀ k a, hp_R σ' 6 k a = hp_R σ 6 k a := fun k a => m6 6 k a (by decide) (by decide)
  have R9 : ∀ k a, hp_R σ' 9 k a = hp_R σ 9 k a := fun k a => m6 9 k a (by decide) (by decide)
  have R10 : ∀ k a, hp_R σ' 10 k a = hp_R σ 10 k a := fun k a => m6 10 k a (by decide) (by decide)
  have g : ∀ k, k ≠ 15 → k ≠ 21 → ga s' k = ga s k := fun k hk hk' => funext (r2 k hk hk')
  have a6 := g 6 (by decide) (by decide); have a7 := g 7 (by decide) (by decide); have a8 := g 8 (by decide) (by decide); have a9 := g 9 (by decide) (by decide); have a11 := g 11 (by decide) (by decide); have a12 := g 12 (by decide) (by decide); have a13 := g 13 (by decide) (by decide); have a16 := g 16 (by decide) (by decide); have a20 := g 20 (by decide) (by decide); have a30 := g 30 (by decide) (by decide); have a31 := g 31 (by decide) (by decide); have a46 := g 46 (by decide) (by decide); have a47 := g 47 (by decide) (by decide); have a48 := g 48 (by decide) (by decide)
  have l5 := r3 5 (by decide)
  obtain ⟨e1, e2, e3⟩ := ends_congr (s := s) (s' := s') (r2 14 (by decide) (by decide)) (r1 2) (r1 3) (r4 17 (by decide)) (r4 18 (by decide))
  unfold Rest SK SCa SCb EN MP WY WYk LGt CTT Out AD WFa WFb mpo at *
  simp only [m1, m2, m3, m4, I0, I1, I2, I3, I4, I5, I6, I8, I10, R0, R2, R5, R6, R9, R10, r1, a6, a7, a8, a9, a11, a12, a13, a16, a20, a30, a31, a46, a47, a48, l5, e1, e2, e3]
  exact h
theorem Nt.m37 {d i : Nat} (h : Nt c es n σ s d i) (m : M37 σ σ') (r : RM s s') : Nt c es n σ' s' d i := by
  unfold Nt at *
  have I6 : ∀ k a, hp_I σ' 6 k a = hp_I σ 6 k a := fun k a => m.2.2.2.2.1 6 k a (by decide)
  simp only [I6, m.2.2.1, r.2.1 24 (by decide) (by decide), r.2.1 23 (by decide) (by decide)]
  exact h
theorem Rest.mc {W' : Nat → Int32} (h : Rest c o es n Q z W σ s) (m : MC c σ σ') (r : RC s s') (hc : CTT σ' c s' z W') : Rest c o es n Q z W' σ' s' := by
  obtain ⟨h1, h2, h2b, h3, h4, h5, h6, h7, h8, h9, h10, h11⟩ := h
  obtain ⟨m1, m2, m3, m4, m5, m6⟩ := m
  obtain ⟨r1, r2, r3, r4⟩ := r
  have I0 : ∀ k a, hp_I σ' 0 k a = hp_I σ 0 k a := fun k a => m5 0 k a (by decide)
  have I1 : ∀ k a, hp_I σ' 1 k a = hp_I σ 1 k a := fun k a => m5 1 k a (by decide)
  have I3 : ∀ k a, hp_I σ' 3 k a = hp_I σ 3 k a := fun k a => m5 3 k a (by decide)
  have I4 : ∀ k a, hp_I σ' 4 k a = hp_I σ 4 k a := fun k a => m5 4 k a (by decide)
  have I5 : ∀ k a, hp_I σ' 5 k a = hp_I σ 5 k a := fun k a => m5 5 k a (by decide)
  have I6 : ∀ k a, hp_I σ' 6 k a = hp_I σ 6 k a := fun k a => m5 6 k a (by decide)
  have I8 : ∀ k a, hp_I σ' 8 k a = hp_I σ 8 k a := fun k a => m5 8 k a (by decide)
  have I10 : ∀ k a, hp_I σ' 10 k a = hp_I σ 10 k a := fun k a => m5 10 k a (by decide)
  have g : ∀ k, k ≠ 30 → ga s' k = ga s k := fun k hk => funext (r2 k hk)
  have a6 := g 6 (by decide); have a7 := g 7 (by decide); have a8 := g 8 (by decide); have a9 := g 9 (by decide); have a11 := g 11 (by decide); have a12 := g 12 (by decide); have a13 := g 13 (by decide); have a16 := g 16 (by decide); have a20 := g 20 (by decide); have a46 := g 46 (by decide); have a47 := g 47 (by decide); have a48 := g 48 (by decide)
  have i1 := r1 1 (by decide); have i2 := r1 2 (by decide); have i3 := r1 3 (by decide); have i28 := r1 28 (by decide); have i32 := r1 32 (by decide); have i33 := r1 33 (by decide); have i34 := r1 34 (by decide); have i35 := r1 35 (by decide); have i36 := r1 36 (by decide); have i37 := r1 37 (by decide); have i38 := r1 38 (by decide); have i39 := r1 39 (by decide); have i40 := r1 40 (by decide); have i41 := r1 41 (by decide); have i42 := r1 42 (by decide); have i43 := r1 43 (by decide); have i44 := r1 44 (by decide); have i45 := r1 45 (by decide)
  obtain ⟨e1, e2, e3⟩ := ends_congr (s := s) (s' := s') (r2 14 (by decide)) i2 i3 (r4 17) (r4 18)
  refine ⟨?_, ?_, ?_, ?_, ?_, ?_, ?_, hc, ?_, ?_, ?_, ?_⟩
  · unfold SK at *; simp only [m2, m6]; exact h1
  · unfold SCa at *; simp only [I0, I4, I8, I6, m4, i1, i2, i3, i28, i32, i35, i41, i42, i43, i44, r3]; exact h2
  · unfold SCb at *; simp only [I1, i1, i33, i34, i36, i37, i38, i39, i40]; exact h2b
  · unfold EN at *; simp only [I3, m4, a11, a12, a16, a20, e1, e2, e3]; exact h3
  · unfold MP mpo at *; rw [m3 (c + 1) (by omega)]; simp only [a6]; exact h4
  · unfold WY WYk at *; rw [m3 (c + 2) (by omega)]; simp only [m1, m2, m6, I10, a7, a8, a9]; exact h5
  · unfold LGt at *; rw [m3 (c + 11) (by omega), m3 (c + 12) (by omega), m3 (c + 13) (by omega)]; simp only [I5, i45, a46, a47, a48]; exact h6
  · unfold Out at *; rw [m3 o.1 (by omega)]; exact h8
  · unfold AD at *; rw [m1]; exact h9
  · unfold WFa at *; simp only [a6, a11, a13, a20, e1]; exact h10
  · unfold WFb at *; simp only [a6, a12, r1 0 (by decide), i1, i2, i3, i32, i33, i34, i36, i39, i40, r3]; exact h11
theorem Nt.mc {d i : Nat} (h : Nt c es n σ s d i) (hd : d < 2) (m : MC c σ σ') (r : RC s s') : Nt c es n σ' s' d i := by
  unfold Nt at *
  rw [m.2.2.1 (c + 4 + 2 * d) (by omega)]
  simp only [m.2.2.2.2.1 6 _ _ (by decide), r.2.1 24 (by decide), r.2.1 23 (by decide)]
  exact h
theorem RI.mc {wt : Nat → Int32} (h : RI σ c es n wt L) (m : MC c σ σ') : RI σ' c es n wt L := by
  obtain ⟨m1, m2, m3, m4, m5, m6⟩ := m
  have I7 : ∀ k a, hp_I σ' 7 k a = hp_I σ 7 k a := fun k a => m5 7 k a (by decide)
  have I3 : ∀ k a, hp_I σ' 3 k a = hp_I σ 3 k a := fun k a => m5 3 k a (by decide)
  obtain ⟨h1, h2, h3, h4, h5, h6, h7⟩ := h
  refine ⟨?_, fun r hr => ⟨?_, ?_⟩, h3, h4, fun e he => ?_, fun e he hno => ?_, h7⟩
  · unfold R0 at *; simp only [m2, m6]; exact h1
  · obtain ⟨c1, c2, c3, c4, c5, c6⟩ := (h2 r hr).1
    exact ⟨by rw [m2]; exact c1, by rw [m6]; exact c2, by rw [m6]; exact c3, by rw [I7]; exact c4, seg_congr (fun b _ => ⟨m2 b, m6 _ _ _, m6 _ _ _, m6 _ _ _⟩) c5, c6⟩
  · rw [I7]; exact (h2 r hr).2
  · rw [m2, I3]; exact h5 e he
  · rw [m6]; exact h6 e he hno
theorem RR.mc {B : Nat} (h : RR s n L B) (r : RC s s') : RR s' n L B := by
  unfold RR at *
  simp only [r.1 10 (by decide), r.2.1 15 (by decide), r.2.2.1, r.2.2.2]
  exact h
end FR
