/-! CLIMB -/
theorem lN_div {a d : Nat} (ha : a < 2 ^ 31) (h0 : 0 < d) (hd : d < 2 ^ 31) : lN a / lN d = lN (a / d) := by
  apply Int64.toInt_inj.mp
  have hq : a / d < 2 ^ 31 := Nat.lt_of_le_of_lt (Nat.div_le_self a d) ha
  have e : ((a : Int).tdiv (d : Int)) = ((a / d : Nat) : Int) := by
    rw [Int.tdiv_eq_ediv_of_nonneg (by omega)]; rfl
  rw [Int64.toInt_div, lN_toInt ha, lN_toInt hd, lN_toInt hq, e]
  clear e
  generalize a / d = q at hq
  exact Int.bmod_eq_of_le (by omega) (by omega)
theorem s_ss (x y : Int32) : x - (x - y) = y := by
  have h1 : x = y + (x - y) := by rw [Int32.add_comm, Int32.sub_add_cancel]
  have h2 := Int32.add_sub_cancel y (x - y)
  rw [← h1] at h2
  exact h2
section CL
variable {b σ σ' : Hp} {m c n Q z N B B' t : Nat} {o : Nat × (Nat → Int32)} {es : Nat → Nat} {W : Nat → Int32} {s s' : RS} {L L' : Nat → List Nat}
/-- numbers of the objects 0, 1, 8 -/
def MNu (σ σ' : Hp) : Prop := hp_N σ' = hp_N σ ∧ (∀ a, hp_C σ' a = hp_C σ a) ∧ (∀ x k a, hp_R σ' x k a = hp_R σ x k a) ∧ (∀ x k a, hp_L σ' x k a = hp_L σ x k a) ∧ (∀ x k a, x ≠ 0 → x ≠ 1 → x ≠ 8 → hp_I σ' x k a = hp_I σ x k a) ∧ ∀ a, hp_A σ' a = hp_A σ a
def RNu (s s' : RS) : Prop := (∀ k, (k = 1 ∨ k = 2 ∨ k = 3 ∨ k = 4 ∨ k = 10 ∨ k = 27 ∨ k = 28 ∨ k = 29 ∨ k = 45) → gi s' k = gi s k) ∧ (∀ k j, ga s' k j = ga s k j) ∧ (∀ k, gl s' k = gl s k) ∧ ∀ k j, gb s' k j = gb s k j
theorem Sim.num {Q' : Nat} (h : Sim c o es n Q z W L B t σ s) (mm : MNu σ σ') (r : RNu s s') (hS : SCa σ' c s') (hS2 : SCb σ' c s') (hW : WFb s' n Q' o.2) : Sim c o es n Q' z W L B t σ' s' := by
  obtain ⟨⟨h1, h2, h2b, h3, h4, h5, h6, h7, h8, h9, h10, h11⟩, hI, hR, hN0, hN1, hT⟩ := h
  obtain ⟨m1, m2, m3, m4, m5, m6⟩ := mm
  obtain ⟨r1, r2, r3, r4⟩ := r
  have I2 : ∀ k a, hp_I σ' 2 k a = hp_I σ 2 k a := fun k a => m5 2 k a (by decide) (by decide) (by decide)
  have I3 : ∀ k a, hp_I σ' 3 k a = hp_I σ 3 k a := fun k a => m5 3 k a (by decide) (by decide) (by decide)
  have I5 : ∀ k a, hp_I σ' 5 k a = hp_I σ 5 k a := fun k a => m5 5 k a (by decide) (by decide) (by decide)
  have I6 : ∀ k a, hp_I σ' 6 k a = hp_I σ 6 k a := fun k a => m5 6 k a (by decide) (by decide) (by decide)
  have I7 : ∀ k a, hp_I σ' 7 k a = hp_I σ 7 k a := fun k a => m5 7 k a (by decide) (by decide) (by decide)
  have I9 : ∀ k a, hp_I σ' 9 k a = hp_I σ 9 k a := fun k a => m5 9 k a (by decide) (by decide) (by decide)
  have I10 : ∀ k a, hp_I σ' 10 k a = hp_I σ 10 k a := fun k a => m5 10 k a (by decide) (by decide) (by decide)
  have i2 := r1 2 (by decide); have i3 := r1 3 (by decide); have i4 := r1 4 (by decide); have i10 := r1 10 (by decide); have i27 := r1 27 (by decide); have i29 := r1 29 (by decide); have i45 := r1 45 (by decide)
  have ag : ∀ k, ga s' k = ga s k := fun k => funext (r2 k)
  obtain ⟨e1, e2, e3⟩ := ends_congr (s := s) (s' := s') (r2 14) i2 i3 (r4 17) (r4 18)
  refine ⟨⟨?_, hS, hS2, ?_, ?_, ?_, ?_, ?_, ?_, ?_, ?_, hW⟩, ?_, ?_, ?_, ?_, ?_⟩
  · unfold SK at *; simp only [m2, m3]; exact h1
  · unfold EN at *; simp only [I3, m4, ag, e1, e2, e3]; exact h3
  · unfold MP mpo at *; simp only [m6, ag]; exact h4
  · unfold WY WYk at *; simp only [m6, m1, m2, m3, I10, ag]; exact h5
  · unfold LGt at *; simp only [m6, I5, i45, ag]; exact h6
  · unfold CTT at *; simp only [m6, m2, m3, I2, i4, i29, ag]; exact h7
  · unfold Out at *; simp only [m6]; exact h8
  · unfold AD at *; rw [m1]; exact h9
  · unfold WFa at *; simp only [ag, e1]; exact h10
  · rw [ag]
    obtain ⟨g1, g2, g3, g4, g5, g6, g7⟩ := hI
    refine ⟨?_, fun r hr => ⟨?_, ?_⟩, g3, g4, fun e he => ?_, fun e he hno => ?_, g7⟩
    · unfold R0 at *; simp only [m2, m3]; exact g1
    · obtain ⟨c1, c2, c3, c4, c5, c6⟩ := (g2 r hr).1
      exact ⟨by rw [m2]; exact c1, by rw [m3]; exact c2, by rw [m3]; exact c3, by rw [I7]; exact c4, seg_congr (fun b _ => ⟨m2 b, m3 _ _ _, m3 _ _ _, m3 _ _ _⟩) c5, c6⟩
    · rw [I7]; exact (g2 r hr).2
    · rw [m2, I3]; exact g5 e he
    · rw [m3]; exact g6 e he hno
  · unfold RR at *; simp only [i10, ag, r3, r4]; exact hR
  · unfold Nt at *; simp only [m6, I6, ag]; exact hN0
  · unfold Nt at *; simp only [m6, I6, ag]; exact hN1
  · refine hT.to (I9 _ _) (m6 _) (m6 _) i27 (ag 25) (ag 26) (fun _ z => z) (fun e _ _ z => ?_)
    rw [ag] at z; exact z
/-! the reference's two ways -/
theorem fillR (hb : hp_C b m = some 11) (hN : 1000 ≤ N) (lim : Int32) : ∀ (i k : Nat) (s : RS) (L : Nat → List Nat), RR s n L (B + k) → gi s 32 = lim → k = (L 2).length + (L 3).length → k + 1 < i → ∃ s', f_M_climb_231 N i (some m) 1 (rh b m s) = f_M_climb_308 N N (some m) (rh b m s') ∧ RR s' n (fillL (ga s 13) lim k L) B ∧ RM s s' := by
  intro i
  induction i with
  | zero => intro k s L h _ _ hi; omega
  | succ i ih =>
    intro k s L h h32 hk hi
    have h600 := h.2.1
    have hw := h.weight hb i1 hN
    have w2 := h.earliest hb i2 hN; have w3 := h.earliest hb i3 hN
    rw [show nI 1 = 1 from rfl] at hw
    rw [show nI 2 = 2 from rfl] at w2
    rw [show nI 3 = 3 from rfl] at w3
    have stop : ∀ s0, f_M_climb_231 N i (some m) 0 (rh b m s0) = f_M_climb_308 N N (some m) (rh b m s0) := by
      intro s0
      cases i with
      | zero => omega
      | succ i => simp [f_M_climb_231]
    cases h2 : L 2 with
    | cons e l =>
      cases k with
      | zero => rw [h2] at hk; simp at hk; omega
      | succ k =>
        have he : e ∈ L 2 := by rw [h2]; simp
        have hen := h.2.2.2.1 2 i2 e he
        have hie : ix_ (nI e) 1100 = some e := ixN (by omega) (by omega)
        have hm1 := nI_m1 (e := e) (by omega)
        rw [h2] at w2
        simp only [List.head?_cons, oI] at w2
        by_cases hwl : sw (ga s 13) (L 1) + ga s 13 e ≤ lim
        · have hwl' : ¬ lim < sw (ga s 13) (L 1) + ga s 13 e := Int32.not_lt.mpr hwl
          have h' : RR (latS s e 1) n (mv L e 2 1) (B + k) := RR.mv (B := B + k) (by rw [Nat.add_assoc]; exact h) i2 i1 he
          obtain ⟨s', f1, r1, m1⟩ := ih k (latS s e 1) (mv L e 2 1) h' h32 (by rw [mv_len h2 (by decide), mv_o (by decide) (by decide)]; rw [h2] at hk; simp only [List.length_cons] at hk; omega) (by omega)
          refine ⟨s', ?_, ?_, lat_RM.trans m1⟩
          · have hL := lat_run (b := b) (m := m) (s := s) hb (e := e) (by omega) (r := 1)
            simp [f_M_climb_231, f_M_climb_258, f_M_climb_290, f_M_climb_291, f_M_climb_305, isOr hb, pb, w2, hm1, hw, ldRr hb, ldIr hb, al13, hie, h32, hwl', hL, f1]
          · have : fillL (ga s 13) lim (k + 1) L = fillL (ga s 13) lim k (mv L e 2 1) := by simp only [fillL, h2]; rw [if_pos hwl]
            rw [this]
            rw [(lat_RM (s := s) (e := e) (r := 1)).wt] at r1
            exact r1
        · have hwl' : lim < sw (ga s 13) (L 1) + ga s 13 e := Int32.not_le.mp hwl
          refine ⟨s, ?_, ?_, RM.rf⟩
          · rw [← stop s]
            simp [f_M_climb_231, f_M_climb_258, f_M_climb_290, f_M_climb_291, f_M_climb_305, isOr hb, pb, w2, hm1, hw, ldRr hb, ldIr hb, al13, hie, h32, hwl']
          · have : fillL (ga s 13) lim (k + 1) L = L := by simp only [fillL, h2]; rw [if_neg hwl]
            rw [this]; exact h.le (by omega)
    | nil =>
      rw [h2] at w2
      simp only [List.head?_nil, oI] at w2
      cases h3 : L 3 with
      | nil =>
        rw [h3] at w3
        simp only [List.head?_nil, oI] at w3
        rw [h2, h3] at hk
        have hk0 : k = 0 := hk
        subst hk0
        refine ⟨s, ?_, h, RM.rf⟩
        rw [← stop s]
        simp [f_M_climb_231, f_M_climb_258, f_M_climb_290, f_M_climb_291, f_M_climb_305, isOr hb, pb, w2, w3]
      | cons e l =>
        cases k with
        | zero => rw [h2, h3] at hk; simp at hk
        | succ k =>
          have he : e ∈ L 3 := by rw [h3]; simp
          have hen := h.2.2.2.1 3 i3 e he
          have hie : ix_ (nI e) 1100 = some e := ixN (by omega) (by omega)
          have hm1 := nI_m1 (e := e) (by omega)
          rw [h3] at w3
          simp only [List.head?_cons, oI] at w3
          by_cases hwl : sw (ga s 13) (L 1) + ga s 13 e ≤ lim
          · have hwl' : ¬ lim < sw (ga s 13) (L 1) + ga s 13 e := Int32.not_lt.mpr hwl
            have h' : RR (latS s e 1) n (mv L e 3 1) (B + k) := RR.mv (B := B + k) (by rw [Nat.add_assoc]; exact h) i3 i1 he
            obtain ⟨s', f1, r1, m1⟩ := ih k (latS s e 1) (mv L e 3 1) h' h32 (by rw [mv_len h3 (by decide), mv_o (by decide) (by decide)]; rw [h3] at hk; simp only [List.length_cons] at hk; omega) (by omega)
            refine ⟨s', ?_, ?_, lat_RM.trans m1⟩
            · have hL := lat_run (b := b) (m := m) (s := s) hb (e := e) (by omega) (r := 1)
              simp [f_M_climb_231, f_M_climb_258, f_M_climb_290, f_M_climb_291, f_M_climb_305, isOr hb, pb, w2, w3, hm1, hw, ldRr hb, ldIr hb, al13, hie, h32, hwl', hL, f1]
            · have : fillL (ga s 13) lim (k + 1) L = fillL (ga s 13) lim k (mv L e 3 1) := by simp only [fillL, h2, h3]; rw [if_pos hwl]
              rw [this]
              rw [(lat_RM (s := s) (e := e) (r := 1)).wt] at r1
              exact r1
          · have hwl' : lim < sw (ga s 13) (L 1) + ga s 13 e := Int32.not_le.mp hwl
            refine ⟨s, ?_, ?_, RM.rf⟩
            · rw [← stop s]
              simp [f_M_climb_231, f_M_climb_258, f_M_climb_290, f_M_climb_291, f_M_climb_305, isOr hb, pb, w2, w3, hm1, hw, ldRr hb, ldIr hb, al13, hie, h32, hwl']
            · have : fillL (ga s 13) lim (k + 1) L = L := by simp only [fillL, h2, h3]; rw [if_neg hwl]
              rw [this]; exact h.le (by omega)
theorem spillR2 (hb : hp_C b m = some 11) (hN : 1000 ≤ N) (lim : Int32) (hlim : 0 ≤ lim) : ∀ (i k : Nat) (s : RS) (L : Nat → List Nat), RR s n L (B + k) → gi s 32 = lim → gi s 36 = 0 → k = (L 1).length → k < i → ∃ s', f_M_climb_308 N i (some m) (rh b m s) = f_M_climb_340 N (some m) (rh b m s') ∧ RR s' n (spillL (ga s 13) lim k L) B ∧ RM s s' := by
  intro i
  induction i with
  | zero => intro k s L _ _ _ _ hi; omega
  | succ i ih =>
    intro k s L h h32 h36 hk hi
    have h600 := h.2.1
    have hw := h.weight hb i1 hN
    rw [show nI 1 = 1 from rfl] at hw
    cases k with
    | zero =>
      have h1 : L 1 = [] := List.length_eq_zero_iff.mp hk.symm
      refine ⟨s, ?_, h, RM.rf⟩
      rw [h1] at hw
      simp [f_M_climb_308, isOr hb, hw, pb, ldIr hb, h32, h36, sw, hlim]
    | succ k =>
      cases h1 : L 1 with
      | nil => rw [h1] at hk; cases hk
      | cons e l =>
        by_cases hwl : sw (ga s 13) (L 1) ≤ lim
        · have e1 : spillL (ga s 13) lim (k + 1) L = L := by simp only [spillL, h1]; rw [h1] at hwl; rw [if_pos hwl]
          rw [e1]
          refine ⟨s, ?_, h.le (by omega), RM.rf⟩
          simp [f_M_climb_308, isOr hb, hw, pb, ldIr hb, h32, h36, hwl]
        · have he : e ∈ L 1 := by rw [h1]; simp
          have hen := h.2.2.2.1 1 i1 e he
          have hE := h.earliest hb i1 hN
          rw [h1, show nI 1 = 1 from rfl] at hE
          have h' : RR (latS s e 2) n (mv L e 1 2) (B + k) := RR.mv (B := B + k) (by rw [Nat.add_assoc]; exact h) i1 i2 he
          obtain ⟨s', f1, r1, m1⟩ := ih k (latS s e 2) (mv L e 1 2) h' h32 h36 (by rw [mv_len h1 (by decide)]; rw [h1] at hk; simpa using hk) (by omega)
          rw [(lat_RM (s := s) (e := e) (r := 2)).wt] at r1
          have e4 : spillL (ga s 13) lim (k + 1) L = spillL (ga s 13) lim k (mv L e 1 2) := by simp only [spillL, h1]; rw [h1] at hwl; rw [if_neg hwl]
          rw [e4]
          refine ⟨s', ?_, r1, lat_RM.trans m1⟩
          have hL := lat_run (b := b) (m := m) (s := s) hb (e := e) (by omega) (r := 2)
          simp [f_M_climb_308, isOr hb, hw, pb, ldIr hb, h32, h36, hwl, hE, oI, hL, f1]
end CL
/-! the numbers of a climb -/
theorem imax1 (y : Int32) : imax_ 1 y = if 1 ≤ y then y else 1 := by
  unfold imax_
  by_cases h : 1 < y
  · rw [if_pos h, if_pos (Int32.le_of_lt h)]
  · rw [if_neg h]
    by_cases h2 : 1 ≤ y
    · rw [if_pos h2]; exact Int32.le_antisymm h2 (Int32.not_lt.mp h)
    · rw [if_neg h2]
theorem imin_le (x y : Int32) : imin_ x y = if x ≤ y then x else y := by
  unfold imin_
  by_cases h : y < x
  · rw [if_pos h, if_neg (Int32.not_le.mpr h)]
  · rw [if_neg h, if_pos (Int32.not_lt.mp h)]
section CN
variable {b σ σ' : Hp} {m c n Q z N B B' t : Nat} {o : Nat × (Nat → Int32)} {es : Nat → Nat} {W : Nat → Int32} {s s' : RS} {L L' : Nat → List Nat}
theorem due_run (h : Sim c o es n Q z W L B t σ s) : f_Cl_isDue (some (c + 21)) σ = some (if gi s 39 + gi s 40 < 10 * gi s 1 then 0 else 1, σ) := by
  have hC := h.1.1.2.2.2.2.2.2.2.2.2.2.2.2.2.2.2.2.1
  obtain ⟨q1, q2, q3, q4, q5, q6, q7, q8, q9⟩ := h.1.2.2.1
  by_cases hd : gi s 39 + gi s 40 < 10 * gi s 1
  · simp [f_Cl_isDue, ldI, hC, q1, q3, q4, q6, s_ss, hd]
  · simp [f_Cl_isDue, ldI, hC, q1, q3, q4, q6, s_ss, hd]
/-- what a climb writes into the class's object -/
def clH (σ : Hp) (c : Nat) (u st r h a : Int32) : Hp := up_I (up_I (up_I (up_I (up_I σ 1 8 (c + 21) u) 1 7 (c + 21) st) 1 6 (c + 21) r) 1 4 (c + 21) h) 1 5 (c + 21) a
end CN
