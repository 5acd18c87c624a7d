/-! moves keep who is in a room; numbers of the class's own object -/
section MV
variable {b σ σ' : Hp} {m c n Q z N B B' t : Nat} {o : Nat × (Nat → Int32)} {es : Nat → Nat} {W : Nat → Int32} {s s' : RS} {L L' : Nat → List Nat}
theorem inL_mv {e q r d : Nat} (hq : in3 q) (hr : in3 r) (he : e ∈ L q) (h : inL (mv L e q r) d) : inL L d := by
  obtain ⟨x, hx, hm⟩ := h
  have key : ∀ y, in3 y → d ∈ upL L q ((L q).erase e) y → inL L d := by
    intro y hy hm
    by_cases hyq : y = q
    · subst hyq; rw [upL_s] at hm; exact ⟨y, hy, List.mem_of_mem_erase hm⟩
    · rw [upL_n hyq] at hm; exact ⟨y, hy, hm⟩
  unfold mv at hm
  by_cases hxr : x = r
  · subst hxr
    rw [upL_s] at hm
    rcases List.mem_append.mp hm with z | z
    · exact key x hx z
    · have : d = e := by simpa using z
      subst this; exact ⟨q, hq, he⟩
  · rw [upL_n hxr] at hm; exact key x hx hm
theorem inL_trim {wt : Nat → Int32} {lim : Int32} {d : Nat} : ∀ (k : Nat) (L : Nat → List Nat), inL (trimL wt lim k L) d → inL L d := by
  intro k
  induction k with
  | zero => intro L h; exact h
  | succ k ih =>
    intro L h
    unfold trimL at h
    split at h
    · exact h
    · rename_i e l hl
      split at h
      · exact h
      · exact inL_mv i3 i2 (by rw [hl]; simp) (ih _ h)
theorem inL_touch {wt : Nat → Int32} {lim : Int32} {d e q : Nat} (hq : in3 q) (he : e ∈ L q) (h : inL (touchL wt lim e q L) d) : inL L d := by
  refine inL_mv hq ?_ he (inL_trim _ _ h)
  unfold tq; split
  · exact i3
  · exact hq
theorem inL_spill {wt : Nat → Int32} {lim : Int32} {d : Nat} : ∀ (k : Nat) (L : Nat → List Nat), inL (spillL wt lim k L) d → inL L d := by
  intro k
  induction k with
  | zero => intro L h; exact h
  | succ k ih =>
    intro L h
    unfold spillL at h
    split at h
    · exact h
    · rename_i e l hl
      split at h
      · exact h
      · exact inL_mv i1 i2 (by rw [hl]; simp) (ih _ h)
theorem inL_fill {wt : Nat → Int32} {lim : Int32} {d : Nat} : ∀ (k : Nat) (L : Nat → List Nat), inL (fillL wt lim k L) d → inL L d := by
  intro k
  induction k with
  | zero => intro L h; exact h
  | succ k ih =>
    intro L h
    unfold fillL at h
    split at h
    · rename_i e l hl
      split at h
      · exact inL_mv i2 i1 (by rw [hl]; simp) (ih _ h)
      · exact h
    · split at h
      · rename_i e l hl
        split at h
        · exact inL_mv i3 i1 (by rw [hl]; simp) (ih _ h)
        · exact h
      · exact h
theorem Tk.m37 {i : Nat} (h : Tk c es n L σ s t i) (mm : M37 σ σ') (r : RM s s') (hL : ∀ e, inL L' e → inL L e) : Tk c es n L' σ' s' t i := by
  refine h.to (mm.2.2.2.2.1 9 _ _ (by decide)) (mm.2.2.1 _) (mm.2.2.1 _) (r.1 27) (funext (r.2.1 25 (by decide) (by decide))) (funext (r.2.1 26 (by decide) (by decide))) hL (fun e _ _ z => ?_)
  rw [r.2.1 20 (by decide) (by decide)] at z; exact z
theorem Tk.mc {i : Nat} (h : Tk c es n L σ s t i) (mm : MC c σ σ') (r : RC s s') : Tk c es n L σ' s' t i := by
  refine h.to (mm.2.2.2.2.1 9 _ _ (by decide)) (mm.2.2.1 _ (by omega)) (mm.2.2.1 _ (by omega)) (r.1 27 (by decide)) (funext (r.2.1 25 (by decide))) (funext (r.2.1 26 (by decide))) (fun _ z => z) (fun e _ _ z => ?_)
  rw [r.2.1 20 (by decide)] at z; exact z
theorem Sim.rooms (h : Sim c o es n Q z W L B t σ s) (mm : M37 σ σ') (r : RM s s') (hI : RI σ' c es n (ga s 13) L') (hR : RR s' n L' B') (hL : ∀ e, inL L' e → inL L e) : Sim c o es n Q z W L' B' t σ' s' := by
  obtain ⟨h1, h2, h3, h4, h5, h6⟩ := h
  exact ⟨h1.m37 mm r, by rw [r.wt]; exact hI, hR, h4.m37 mm r, h5.m37 mm r, h6.m37 mm r hL⟩
theorem Sim.counted {W' : Nat → Int32} (h : Sim c o es n Q z W L B t σ s) (mm : MC c σ σ') (r : RC s s') (hc : CTT σ' c s' z W') : Sim c o es n Q z W' L B t σ' s' := by
  obtain ⟨h1, h2, h3, h4, h5, h6⟩ := h
  exact ⟨h1.mc mm r hc, by rw [show ga s' 13 = ga s 13 from funext (r.2.1 13 (by decide))]; exact h2.mc mm, h3.mc r, h4.mc (by decide) mm r, h5.mc (by decide) mm r, h6.mc mm r⟩
theorem Sim.le (h : Sim c o es n Q z W L B t σ s) (hB : B' ≤ B) : Sim c o es n Q z W L B' t σ s := ⟨h.1, h.2.1, h.2.2.1.le hB, h.2.2.2⟩
/-- the class's own numbers -/
def MW (σ σ' : Hp) : Prop := hp_N σ' = hp_N σ ∧ (∀ a, hp_C σ' a = hp_C σ a) ∧ (∀ x k a, hp_R σ' x k a = hp_R σ x k a) ∧ (∀ x k a, hp_L σ' x k a = hp_L σ x k a) ∧ (∀ x k a, x ≠ 0 → hp_I σ' x k a = hp_I σ x k a) ∧ ∀ a, hp_A σ' a = hp_A σ a
def RWW (s s' : RS) : Prop := (∀ k, k ≠ 35 → k ≠ 41 → k ≠ 42 → k ≠ 43 → k ≠ 44 → gi s' k = gi s k) ∧ (∀ k, k ≠ 21 → ∀ j, ga s' k j = ga s k j) ∧ (∀ k, gl s' k = gl s k) ∧ ∀ k j, gb s' k j = gb s k j
theorem MW.rf : MW σ σ := ⟨rfl, fun _ => rfl, fun _ _ _ => rfl, fun _ _ _ => rfl, fun _ _ _ _ => rfl, fun _ => rfl⟩
theorem RWW.rf : RWW s s := ⟨fun _ _ _ _ _ _ => rfl, fun _ _ _ => rfl, fun _ => rfl, fun _ _ => rfl⟩
theorem Sim.mw (h : Sim c o es n Q z W L B t σ s) (mm : MW σ σ') (r : RWW s s') (hS : SCa σ' c s') : Sim c o es n Q z W L B t σ' s' := by
  obtain ⟨⟨h1, h2, h2b, h3, h4, h5, h6, h7, h8, h9, h10, h11⟩, hI, hR, hN0, hN1, hT⟩ := h
  obtain ⟨m1, m2, m3, m4, m5, m6⟩ := mm
  obtain ⟨r1, r2, r3, r4⟩ := r
  have I1 : ∀ k a, hp_I σ' 1 k a = hp_I σ 1 k a := fun k a => m5 1 k a (by decide)
  have I2 : ∀ k a, hp_I σ' 2 k a = hp_I σ 2 k a := fun k a => m5 2 k a (by decide)
  have I3 : ∀ k a, hp_I σ' 3 k a = hp_I σ 3 k a := fun k a => m5 3 k a (by decide)
  have I5 : ∀ k a, hp_I σ' 5 k a = hp_I σ 5 k a := fun k a => m5 5 k a (by decide)
  have I6 : ∀ k a, hp_I σ' 6 k a = hp_I σ 6 k a := fun k a => m5 6 k a (by decide)
  have I7 : ∀ k a, hp_I σ' 7 k a = hp_I σ 7 k a := fun k a => m5 7 k a (by decide)
  have I9 : ∀ k a, hp_I σ' 9 k a = hp_I σ 9 k a := fun k a => m5 9 k a (by decide)
  have I10 : ∀ k a, hp_I σ' 10 k a = hp_I σ 10 k a := fun k a => m5 10 k a (by decide)
  have g : ∀ k, k ≠ 35 → k ≠ 41 → k ≠ 42 → k ≠ 43 → k ≠ 44 → gi s' k = gi s k := r1
  have i1 := g 1 (by decide) (by decide) (by decide) (by decide) (by decide); have i2 := g 2 (by decide) (by decide) (by decide) (by decide) (by decide); have i3 := g 3 (by decide) (by decide) (by decide) (by decide) (by decide); have i4 := g 4 (by decide) (by decide) (by decide) (by decide) (by decide); have i10 := g 10 (by decide) (by decide) (by decide) (by decide) (by decide); have i27 := g 27 (by decide) (by decide) (by decide) (by decide) (by decide); have i29 := g 29 (by decide) (by decide) (by decide) (by decide) (by decide); have i32 := g 32 (by decide) (by decide) (by decide) (by decide) (by decide); have i33 := g 33 (by decide) (by decide) (by decide) (by decide) (by decide); have i34 := g 34 (by decide) (by decide) (by decide) (by decide) (by decide); have i36 := g 36 (by decide) (by decide) (by decide) (by decide) (by decide); have i37 := g 37 (by decide) (by decide) (by decide) (by decide) (by decide); have i38 := g 38 (by decide) (by decide) (by decide) (by decide) (by decide); have i39 := g 39 (by decide) (by decide) (by decide) (by decide) (by decide); have i40 := g 40 (by decide) (by decide) (by decide) (by decide) (by decide); have i45 := g 45 (by decide) (by decide) (by decide) (by decide) (by decide)
  have ag : ∀ k, k ≠ 21 → ga s' k = ga s k := fun k hk => funext (r2 k hk)
  have a6 := ag 6 (by decide); have a7 := ag 7 (by decide); have a8 := ag 8 (by decide); have a9 := ag 9 (by decide); have a11 := ag 11 (by decide); have a12 := ag 12 (by decide); have a13 := ag 13 (by decide); have a15 := ag 15 (by decide); have a16 := ag 16 (by decide); have a20 := ag 20 (by decide); have a23 := ag 23 (by decide); have a24 := ag 24 (by decide); have a25 := ag 25 (by decide); have a26 := ag 26 (by decide); have a30 := ag 30 (by decide); have a31 := ag 31 (by decide); have a46 := ag 46 (by decide); have a47 := ag 47 (by decide); have a48 := ag 48 (by decide)
  obtain ⟨e1, e2, e3⟩ := ends_congr (s := s) (s' := s') (r2 14 (by decide)) i2 i3 (r4 17) (r4 18)
  refine ⟨⟨?_, hS, ?_, ?_, ?_, ?_, ?_, ?_, ?_, ?_, ?_, ?_⟩, ?_, ?_, ?_, ?_, ?_⟩
  · unfold SK at *; simp only [m2, m3]; exact h1
  · unfold SCb at *; simp only [I1, i1, i33, i34, i36, i37, i38, i39, i40]; exact h2b
  · unfold EN at *; simp only [I3, m4, a11, a12, a16, a20, e1, e2, e3]; exact h3
  · unfold MP mpo at *; simp only [m6, a6]; exact h4
  · unfold WY WYk at *; simp only [m6, m1, m2, m3, I10, a7, a8, a9]; exact h5
  · unfold LGt at *; simp only [m6, I5, i45, a46, a47, a48]; exact h6
  · unfold CTT at *; simp only [m6, m2, m3, I2, i4, i29, a30, a31]; exact h7
  · unfold Out at *; simp only [m6]; exact h8
  · unfold AD at *; rw [m1]; exact h9
  · unfold WFa at *; simp only [a6, a11, a13, a20, e1]; exact h10
  · unfold WFb at *; simp only [a6, a12, g 0 (by decide) (by decide) (by decide) (by decide) (by decide), i1, i2, i3, i32, i33, i34, i36, i39, i40, r3]; exact h11
  · rw [a13]
    obtain ⟨g1, g2, g3, g4, g5, g6, g7⟩ := hI
    refine ⟨?_, fun r hr => ⟨?_, ?_⟩, g3, g4, fun e he => ?_, fun e he hno => ?_, g7⟩
    · unfold R0 at *; simp only [m2, m3]; exact g1
    · obtain ⟨c1, c2, c3, c4, c5, c6⟩ := (g2 r hr).1
      exact ⟨by rw [m2]; exact c1, by rw [m3]; exact c2, by rw [m3]; exact c3, by rw [I7]; exact c4, seg_congr (fun b _ => ⟨m2 b, m3 _ _ _, m3 _ _ _, m3 _ _ _⟩) c5, c6⟩
    · rw [I7]; exact (g2 r hr).2
    · rw [m2, I3]; exact g5 e he
    · rw [m3]; exact g6 e he hno
  · unfold RR at *; simp only [i10, a15, r3, r4]; exact hR
  · unfold Nt at *; simp only [m6, I6, a23, a24]; exact hN0
  · unfold Nt at *; simp only [m6, I6, a23, a24]; exact hN1
  · refine hT.to (I9 _ _) (m6 _) (m6 _) i27 a25 a26 (fun _ z => z) (fun e _ _ z => ?_)
    rw [a20] at z; exact z
/-- only the candidates' marks -/
theorem Sim.f21 (h : Sim c o es n Q z W L B t σ s) (hi : ∀ k, gi s' k = gi s k) (ha : ∀ k, k ≠ 21 → ∀ j, ga s' k j = ga s k j) (hl : ∀ k, gl s' k = gl s k) (hb : ∀ k j, gb s' k j = gb s k j) : Sim c o es n Q z W L B t σ s' := by
  refine h.mw MW.rf ⟨fun k _ _ _ _ _ => hi k, ha, hl, hb⟩ ?_
  have := h.1.2.1
  unfold SCa at *
  simp only [hi, hl]; exact this
theorem draw_run (hb : hp_C b m = some 11) (h : Sim c o es n Q z W L B t σ s) : ∃ σ' s' d, f_W_nextDraw (some c) σ = some (d, σ') ∧ f_M_drawn (some m) (rh b m s) = some (if d - d / 128 * 128 = 0 then 1 else 0, rh b m s') ∧ Sim c o es n Q z W L B t σ' s' ∧ ∀ k j, ga s' k j = ga s k j := by
  have hC := h.1.1.1
  have hS := h.1.2.1
  have h35 := hS.1
  generalize ha : gi s 35 ^^^ (gi s 35 <<< (13 &&& 31)) = a
  generalize hb2 : a ^^^ (iushr_ a 17) = a2
  generalize hc2 : a2 ^^^ (a2 <<< (5 &&& 31)) = a3
  refine ⟨up_I (up_I (up_I σ 0 10 c a) 0 10 c a2) 0 10 c a3, ui (ui (ui s 35 a) 35 a2) 35 a3, a3, ?_, ?_, h.mw ?_ ?_ ?_, fun _ _ => rfl⟩
  · simp [f_W_nextDraw, ldI, stI, hC, h35, hC_I, hI_I, ha, hb2, hc2]
  · by_cases hz : a3 - a3 / 128 * 128 = 0
    · simp [f_M_drawn, ldIr hb, stIr hb, giui, giul, giua, giub, glui, glul, glua, glub, gaui, gaul, gaua, gaub, gbui, gbul, gbua, gbub, ha, hb2, hc2, hz]
    · simp [f_M_drawn, ldIr hb, stIr hb, giui, giul, giua, giub, glui, glul, glua, glub, gaui, gaul, gaua, gaub, gbui, gbul, gbua, gbub, ha, hb2, hc2, hz]
  · refine ⟨rfl, fun _ => rfl, fun _ _ _ => rfl, fun _ _ _ => rfl, fun x k a hx => ?_, fun _ => rfl⟩
    simp [hI_I, hx]
  · refine ⟨fun k h1 h2 h3 h4 h5 => ?_, fun _ _ _ => rfl, fun _ => rfl, fun _ _ => rfl⟩
    simp [giui, giul, giua, giub, glui, glul, glua, glub, gaui, gaul, gaua, gaub, gbui, gbul, gbua, gbub, h1]
  · obtain ⟨q1, q2, q3, q4, q5, q6, q7, q8, q9, q10, q11⟩ := hS
    refine ⟨by simp [hI_I, giui, giul, giua, giub, glui, glul, glua, glub, gaui, gaul, gaua, gaub, gbui, gbul, gbua, gbub], ?_, ?_, ?_, ?_, ?_, ?_, q8, ?_, ?_, ?_⟩
    · simp [hI_I, giui, giul, giua, giub, glui, glul, glua, glub, gaui, gaul, gaua, gaub, gbui, gbul, gbua, gbub, q2]
    · simp [hI_I, giui, giul, giua, giub, glui, glul, glua, glub, gaui, gaul, gaua, gaub, gbui, gbul, gbua, gbub, q3]
    · simp [hI_I, giui, giul, giua, giub, glui, glul, glua, glub, gaui, gaul, gaua, gaub, gbui, gbul, gbua, gbub, q4]
    · simp [hI_I, giui, giul, giua, giub, glui, glul, glua, glub, gaui, gaul, gaua, gaub, gbui, gbul, gbua, gbub, q5]
    · simp [hI_I, giui, giul, giua, giub, glui, glul, glua, glub, gaui, gaul, gaua, gaub, gbui, gbul, gbua, gbub, q6]
    · simp [hI_I, giui, giul, giua, giub, glui, glul, glua, glub, gaui, gaul, gaua, gaub, gbui, gbul, gbua, gbub, q7]
    · simp [hI_I, giui, giul, giua, giub, glui, glul, glua, glub, gaui, gaul, gaua, gaub, gbui, gbul, gbua, gbub, q9]
    · simp [hI_I, giui, giul, giua, giub, glui, glul, glua, glub, gaui, gaul, gaua, gaub, gbui, gbul, gbua, gbub, q10]
    · simp [hI_I, giui, giul, giua, giub, glui, glul, glua, glub, gaui, gaul, gaua, gaub, gbui, gbul, gbua, gbub, q11]
theorem Sim.evict1 (hb : hp_C b m = some 11) (h : Sim c o es n Q z W L B 0 σ s) {e q : Nat} (hq : in3 q) (he : e ∈ L q) : ∃ σ' s', (∀ (rec10 : Option Nat → Option Nat → Int32 → Hp → Option Hp) (v3 : Int32) (w0 : Option Nat), f_W_evict_76 N rec10 (some c) v3 (some (es e)) w0 σ = rec10 (some c) w0 (v3 + (-1)) σ') ∧ f_M_evict (some m) (nI e) (rh b m s) = some (rh b m s') ∧ Sim c o es n Q z W (upL L q ((L q).erase e)) B 0 σ' s' ∧ ∀ j, ga s' 21 j = ga s 21 j := by
  have hC := h.1.1.1
  have hS := h.1.2.1
  have hI := h.2.1
  have hen := hI.lt hq he
  have h600 := h.2.2.1.2.1
  obtain ⟨q1, q2, q3, q4, q5, q6, q7, q8, q9, q10, q11⟩ := id hS
  have hwe := (hI.2.2.2.2.1 e hen)
  have h' : Sim c o es n Q z W L B 0 (up_I (up_I σ 0 13 c (gi s 43 + 1)) 0 14 c (gi s 44 + ga s 13 e)) (ui (ui s 43 (gi s 43 + 1)) 44 (gi s 44 + ga s 13 e)) := by
    refine h.mw ?_ ?_ ?_
    · refine ⟨rfl, fun _ => rfl, fun _ _ _ => rfl, fun _ _ _ => rfl, fun x k a hx => ?_, fun _ => rfl⟩
      simp [hI_I, hx]
    · refine ⟨fun k h1 h2 h3 h4 h5 => ?_, fun _ _ _ => rfl, fun _ => rfl, fun _ _ => rfl⟩
      simp [giui, giul, giua, giub, glui, glul, glua, glub, gaui, gaul, gaua, gaub, gbui, gbul, gbua, gbub, h4, h5]
    · refine ⟨?_, ?_, ?_, ?_, ?_, ?_, ?_, q8, ?_, ?_, ?_⟩
      · simp [hI_I, giui, giul, giua, giub, glui, glul, glua, glub, gaui, gaul, gaua, gaub, gbui, gbul, gbua, gbub, q1]
      · simp [hI_I, giui, giul, giua, giub, glui, glul, glua, glub, gaui, gaul, gaua, gaub, gbui, gbul, gbua, gbub, q2]
      · simp [hI_I, giui, giul, giua, giub, glui, glul, glua, glub, gaui, gaul, gaua, gaub, gbui, gbul, gbua, gbub, q3]
      · simp [hI_I, giui, giul, giua, giub, glui, glul, glua, glub, gaui, gaul, gaua, gaub, gbui, gbul, gbua, gbub]
      · simp [hI_I, giui, giul, giua, giub, glui, glul, glua, glub, gaui, gaul, gaua, gaub, gbui, gbul, gbua, gbub]
      · simp [hI_I, giui, giul, giua, giub, glui, glul, glua, glub, gaui, gaul, gaua, gaub, gbui, gbul, gbua, gbub, q6]
      · simp [hI_I, giui, giul, giua, giub, glui, glul, glua, glub, gaui, gaul, gaua, gaub, gbui, gbul, gbua, gbub, q7]
      · simp [hI_I, giui, giul, giua, giub, glui, glul, glua, glub, gaui, gaul, gaua, gaub, gbui, gbul, gbua, gbub, q9]
      · simp [hI_I, giui, giul, giua, giub, glui, glul, glua, glub, gaui, gaul, gaua, gaub, gbui, gbul, gbua, gbub, q10]
      · simp [hI_I, giui, giul, giua, giub, glui, glul, glua, glub, gaui, gaul, gaua, gaub, gbui, gbul, gbua, gbub, q11]
  obtain ⟨σ1, σ2, s2, f1, sk, c17, f2, f3, r1, rl⟩ := h'.away hb hq he 3
  refine ⟨σ2, s2, fun rec10 v3 w0 => ?_, ?_, r1, fun j => ?_⟩
  · simp [f_W_evict_76, ldI, stI, isO, hC, q4, q5, hC_I, hI_I, hwe.1, hwe.2, f1, ldR sk.1, sk.2.2.2.2.2.2.2.2.2.1, c17, f2]
  · have hie : ix_ (nI e) 1100 = some e := ixN (by omega) (by omega)
    simp [f_M_evict, ldIr hb, stIr hb, ldRr hb, giui, giul, giua, giub, glui, glul, glua, glub, gaui, gaul, gaua, gaub, gbui, gbul, gbua, gbub, al13, as15, hie, isOr hb, f3]
  · rw [rl.2.1 21 (by decide) (by decide) (by decide) (by decide) (by decide)]
    simp [giui, giul, giua, giub, glui, glul, glua, glub, gaui, gaul, gaua, gaub, gbui, gbul, gbua, gbub]
end MV
