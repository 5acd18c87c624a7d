/-! ASK and GOT -/
section AK
variable {b σ σ' : Hp} {m c n Q z N B B' t : Nat} {o : Nat × (Nat → Int32)} {es : Nat → Nat} {W : Nat → Int32} {s s' : RS} {L L' : Nat → List Nat} {wt : Nat → Int32}
theorem alg1 (x y p q : Int32) : x + (y + 1) - (p + (q + 1)) = x + y - (p + q) := by
  rw [← Int32.add_assoc, ← Int32.add_assoc, Int32.sub_eq_add_neg, Int32.sub_eq_add_neg, Int32.neg_add (a := p + q) (b := 1)]
  rw [Int32.add_assoc (x + y), Int32.sub_eq_add_neg, ← Int32.add_assoc 1, Int32.add_comm 1 (-(p + q)), Int32.add_assoc (-(p + q)), ← Int32.sub_eq_add_neg 1 1, Int32.sub_self, Int32.add_zero]
theorem alg2 (x p : Int32) : x + 1 - (p + 1) = x - p := by
  rw [Int32.sub_eq_add_neg, Int32.sub_eq_add_neg, Int32.neg_add (a := p) (b := 1), Int32.sub_eq_add_neg, Int32.add_assoc, Int32.add_comm (-p), ← Int32.add_assoc 1, ← Int32.sub_eq_add_neg 1 1, Int32.sub_self, Int32.zero_add]
theorem alg3 (x y p q : Int32) : x + 1 + y - (p + 1 + q) = x + y - (p + q) := by
  rw [Int32.add_assoc x, Int32.add_comm 1 y, Int32.add_assoc p, Int32.add_comm 1 q, alg1]
theorem RI.upL {y k a : Nat} {x : Int64} (h : RI σ c es n wt L) : RI (up_L σ y k a x) c es n wt L := by
  obtain ⟨h1, h2, h3, h4, h5, h6, h7⟩ := h
  refine ⟨h1, fun r hr => ⟨?_, (h2 r hr).2⟩, h3, h4, h5, h6, h7⟩
  obtain ⟨c1, c2, c3, c4, c5, c6⟩ := (h2 r hr).1
  exact ⟨c1, c2, c3, c4, seg_congr (σ := σ) (fun b _ => ⟨rfl, rfl, rfl, rfl⟩) c5, c6⟩
theorem Sim.miss (h : Sim c o es n Q z W L B t σ s) (hQ : Q + 1 ≤ 599) : Sim c o es n (Q + 1) z W L B t (up_I σ 1 3 (c + 21) (gi s 38 + 1)) (ui (ui s 38 (gi s 38 + 1)) 40 (gi s 40 + 1)) := by
  obtain ⟨w0, ⟨mx, w, st, r, a, d, g1, g2, g3, g4, g5, g6, g7, g8, g9, g10, g11, g12, g13, g14⟩, g36, w2, w3, w4, w5, w6⟩ := id h.1.2.2.2.2.2.2.2.2.2.2.2
  refine h.num MNu.I1 ⟨fun k hk => ?_, fun _ _ => rfl, fun _ => rfl, fun _ _ => rfl⟩ ?_ ?_ ?_
  · have : k ≠ 38 ∧ k ≠ 40 := by omega
    simp [giui, giul, giua, giub, glui, glul, glua, glub, gaui, gaul, gaua, gaub, gbui, gbul, gbua, gbub, this.1, this.2]
  · obtain ⟨q1, q2, q3, q4, q5, q6, q7, q8, q9, q10, q11⟩ := h.1.2.1
    exact ⟨q1, q2, q3, q4, q5, q6, q7, q8, q9, q10, q11⟩
  · obtain ⟨q1, q2, q3, q4, q5, q6, q7, q8, q9⟩ := h.1.2.2.1
    refine ⟨?_, ?_, ?_, ?_, ?_, ?_, ?_, ?_, ?_⟩
    · rw [hI_I, if_neg (by omega)]; exact q1
    · rw [hI_I, if_neg (by omega)]; exact q2
    · rw [hI_I, if_neg (by omega)]; exact q3
    · rw [hI_I, if_pos ⟨rfl, rfl, rfl⟩]; rfl
    · rw [hI_I, if_neg (by omega)]; exact q5
    · rw [hI_I, if_neg (by omega), q6]
      have e1 : gi (ui (ui s 38 (gi s 38 + 1)) 40 (gi s 40 + 1)) 37 = gi s 37 := rfl
      have e2 : gi (ui (ui s 38 (gi s 38 + 1)) 40 (gi s 40 + 1)) 38 = gi s 38 + 1 := rfl
      have e3 : gi (ui (ui s 38 (gi s 38 + 1)) 40 (gi s 40 + 1)) 39 = gi s 39 := rfl
      have e4 : gi (ui (ui s 38 (gi s 38 + 1)) 40 (gi s 40 + 1)) 40 = gi s 40 + 1 := rfl
      rw [e1, e2, e3, e4, alg1]
    · rw [hI_I, if_neg (by omega)]; exact q7
    · rw [hI_I, if_neg (by omega)]; exact q8
    · rw [hI_I, if_neg (by omega)]; exact q9
  · refine ⟨w0, ⟨mx, w, st, r, a, d + 1, g1, g2, g3, g4, g5, g6, g7, g8, g9, g10, g11, g12, ?_, by omega⟩, g36, w2, w3, by omega, hQ, w6⟩
    show gi s 40 + 1 = _
    rw [g13, nI_1]
theorem Sim.hit (h : Sim c o es n Q z W L B t σ s) (hQ : Q + 1 ≤ 599) : Sim c o es n (Q + 1) z W L B t (up_I σ 1 2 (c + 21) (gi s 37 + 1)) (ui (ui s 37 (gi s 37 + 1)) 39 (gi s 39 + 1)) := by
  obtain ⟨w0, ⟨mx, w, st, r, a, d, g1, g2, g3, g4, g5, g6, g7, g8, g9, g10, g11, g12, g13, g14⟩, g36, w2, w3, w4, w5, w6⟩ := id h.1.2.2.2.2.2.2.2.2.2.2.2
  have e1 : gi (ui (ui s 37 (gi s 37 + 1)) 39 (gi s 39 + 1)) 37 = gi s 37 + 1 := rfl
  have e2 : gi (ui (ui s 37 (gi s 37 + 1)) 39 (gi s 39 + 1)) 38 = gi s 38 := rfl
  have e3 : gi (ui (ui s 37 (gi s 37 + 1)) 39 (gi s 39 + 1)) 39 = gi s 39 + 1 := rfl
  have e4 : gi (ui (ui s 37 (gi s 37 + 1)) 39 (gi s 39 + 1)) 40 = gi s 40 := rfl
  refine h.num MNu.I1 ⟨fun k hk => ?_, fun _ _ => rfl, fun _ => rfl, fun _ _ => rfl⟩ ?_ ?_ ?_
  · have : k ≠ 37 ∧ k ≠ 39 := by omega
    simp [giui, giul, giua, giub, glui, glul, glua, glub, gaui, gaul, gaua, gaub, gbui, gbul, gbua, gbub, this.1, this.2]
  · obtain ⟨q1, q2, q3, q4, q5, q6, q7, q8, q9, q10, q11⟩ := h.1.2.1
    exact ⟨q1, q2, q3, q4, q5, q6, q7, q8, q9, q10, q11⟩
  · obtain ⟨q1, q2, q3, q4, q5, q6, q7, q8, q9⟩ := h.1.2.2.1
    refine ⟨?_, ?_, ?_, ?_, ?_, ?_, ?_, ?_, ?_⟩
    · rw [hI_I, if_neg (by omega)]; exact q1
    · rw [hI_I, if_neg (by omega)]; exact q2
    · rw [hI_I, if_pos ⟨rfl, rfl, rfl⟩, e1]
    · rw [hI_I, if_neg (by omega)]; exact q4
    · rw [hI_I, if_neg (by omega), q5, e1, e3, alg2]
    · rw [hI_I, if_neg (by omega), q6, e1, e2, e3, e4, alg3]
    · rw [hI_I, if_neg (by omega)]; exact q7
    · rw [hI_I, if_neg (by omega)]; exact q8
    · rw [hI_I, if_neg (by omega)]; exact q9
  · refine ⟨w0, ⟨mx, w, st, r, a + 1, d, g1, g2, g3, g4, g5, g6, g7, g8, g9, g10, g11, ?_, g13, by omega⟩, g36, w2, w3, by omega, hQ, w6⟩
    rw [e3, g12, nI_1]
/-- prolong -/
theorem pro_ends {e : Nat} : (∀ d, fe (ub s 18 e (gl s 5)) d = fe s d) ∧ (∀ d, lbt (ub s 18 e (gl s 5)) d = lbt s d) ∧ ∀ d, en (ub s 18 e (gl s 5)) d = if d = e then (if lbt s e = 0 then fe s e else lmin_ (fe s e) (gl s 5 + (gi s 3).toInt64)) else en s d := by
  have h1 : ∀ d, fe (ub s 18 e (gl s 5)) d = fe s d := fun d => by
    unfold fe
    have : gb (ub s 18 e (gl s 5)) 17 d = gb s 17 d := by simp [giui, giul, giua, giub, glui, glul, glua, glub, gaui, gaul, gaua, gaub, gbui, gbul, gbua, gbub]
    rw [this]; rfl
  have h2 : ∀ d, lbt (ub s 18 e (gl s 5)) d = lbt s d := fun d => rfl
  refine ⟨h1, h2, fun d => ?_⟩
  unfold en
  rw [h1, h2]
  have e3 : gi (ub s 18 e (gl s 5)) 3 = gi s 3 := rfl
  rw [e3]
  by_cases hde : d = e
  · subst hde
    have : gb (ub s 18 d (gl s 5)) 18 d = gl s 5 := by simp [giui, giul, giua, giub, glui, glul, glua, glub, gaui, gaul, gaua, gaub, gbui, gbul, gbua, gbub]
    rw [this, if_pos rfl]
  · have : gb (ub s 18 e (gl s 5)) 18 d = gb s 18 d := by simp [giui, giul, giua, giub, glui, glul, glua, glub, gaui, gaul, gaua, gaub, gbui, gbul, gbua, gbub, hde]
    rw [this, if_neg hde]
theorem Sim.pro (h : Sim c o es n Q z W L B t σ s) {e : Nat} (he : e < n) : f_Li_prolong (some (c + 14)) (some (es e)) σ = some (up_L σ 3 5 (es e) (en (ub s 18 e (gl s 5)) e)) ∧ Sim c o es n Q z W L B t (up_L σ 3 5 (es e) (en (ub s 18 e (gl s 5)) e)) (ub s 18 e (gl s 5)) := by
  obtain ⟨⟨h1, h2, h2b, h3, h4, h5, h6, h7, h8, h9, h10, h11⟩, hI, hR, hN0, hN1, hT⟩ := id h
  obtain ⟨pf, pl, pe⟩ := pro_ends (s := s) (e := e)
  have hC := hI.c3 he
  have k15 : hp_C σ (c + 14) = some 4 := h1.2.2.2.2.2.2.2.2.2.2.2.2.2.2.2.1
  obtain ⟨a1, a2, a3, a4, a5, a6, a7⟩ := h3 e he
  have hT4 : hp_L σ 4 2 (c + 14) = gl s 5 := h2.2.2.2.2.2.2.2.1
  have hI4 : posI (hp_I σ 4 1 (c + 14)) = gi s 3 := h2.2.2.2.2.2.2.1
  constructor
  · rw [pe, if_pos rfl]
    by_cases hl : lbt s e = 0
    · rw [if_pos hl]
      simp [f_Li_prolong, ldI hC, a7, hl, ldL hC, a6, stL hC]
    · rw [if_neg hl]
      have hpos : hp_I σ 4 1 (c + 14) = gi s 3 := by
        rw [← hI4]
        refine (posI_eq ?_).symm
        unfold lbt at hl
        rw [← hI4] at hl
        by_cases hx : 0 < ga s 14 e
        · rw [if_pos hx] at hl; exact absurd rfl hl
        · rw [if_neg hx] at hl
          by_cases ht : 0 < posI (hp_I σ 4 1 (c + 14))
          · exact posI_lt.mp ht
          · rw [if_neg ht] at hl; exact absurd rfl hl
      simp [f_Li_prolong, ldI hC, a7, hl, ldL hC, a6, stL hC, ldL k15, hT4, ldI k15, hpos]
  · have rL : ∀ x k a, (x ≠ 3 ∨ k ≠ 5 ∨ a ≠ es e) → hp_L (up_L σ 3 5 (es e) (en (ub s 18 e (gl s 5)) e)) x k a = hp_L σ x k a := fun x k a hx => by rw [hL_L, if_neg (by omega)]
    refine ⟨⟨h1, ?_, h2b, fun d hd => ?_, h4, h5, h6, h7, h8, h9, ?_, h11⟩, hI.upL, ?_, hN0, hN1, hT⟩
    · obtain ⟨q1, q2, q3, q4, q5, q6, q7, q8, q9, q10, q11⟩ := h2
      exact ⟨q1, q2, q3, q4, q5, q6, q7, by rw [rL _ _ _ (Or.inl (by decide))]; exact q8, q9, q10, q11⟩
    · obtain ⟨b1, b2, b3, b4, b5, b6, b7⟩ := h3 d hd
      refine ⟨b1, b2, b3, b4, ?_, ?_, b7⟩
      · by_cases hde : d = e
        · subst hde; rw [hL_L, if_pos ⟨rfl, rfl, rfl⟩]
        · rw [rL _ _ _ (Or.inr (Or.inr (fun q => hde (hI.2.2.2.2.2.2 d e hd he q)))), pe, if_neg hde]; exact b5
      · rw [rL _ _ _ (Or.inr (Or.inl (by decide))), pf]; exact b6
    · obtain ⟨w1, w2, w3, w4, w5, w6⟩ := h10
      exact ⟨w1, w2, w3, w4, w5, fun d hd => by rw [pf]; exact w6 d hd⟩
    · obtain ⟨g1, g2, g3, g4, g5, st, tt, g6, g7, g8, g9⟩ := hR
      refine ⟨g1, g2, g3, g4, g5, st, tt, g6, g7, fun r hr d hd => ?_, g9⟩
      have : gb (ub s 18 e (gl s 5)) 19 d = gb s 19 d := by simp [giui, giul, giua, giub, glui, glul, glua, glub, gaui, gaul, gaua, gaub, gbui, gbul, gbua, gbub]
      rw [this]; exact g8 r hr d hd
/-- a note -/
theorem Sim.note (hb : hp_C b m = some 11) (h : Sim c o es n Q z W L B t σ s) {e d : Nat} (he : e < n) (hd : d < 2) : ∃ σ' s', f_No_add (some (c + 3 + 2 * d)) (some (es e)) σ = some σ' ∧ Sim c o es n Q z W L B t σ' s' ∧ (∀ j, ga s' 12 j = ga s 12 j) ∧ ((ga s 24 d = 16 ∧ s' = ui s 28 (gi s 28 + 1)) ∨ (¬ ga s 24 d = 16 ∧ ∃ t', t' < 16 ∧ ga s 24 d = nI t' ∧ s' = ua (ua s 23 (16 * d + t') (nI e)) 24 d (nI t' + 1))) := by
  obtain ⟨⟨h1, h2, h2b, h3, h4, h5, h6, h7, h8, h9, h10, h11⟩, hI, hR, hN0, hN1, hT⟩ := id h
  have hNd : Nt c es n σ s d 0 := by
    rcases (show d = 0 ∨ d = 1 by omega) with rfl | rfl
    · exact hN0
    · exact hN1
  have hC6 : hp_C σ (c + 3 + 2 * d) = some 6 := by
    rcases (show d = 0 ∨ d = 1 by omega) with rfl | rfl
    · exact h1.2.2.2.2.2.2.2.2.2.2.2.1
    · exact h1.2.2.2.2.2.2.2.2.2.2.2.2.1
  have hR6 : hp_R σ 6 0 (c + 3 + 2 * d) = some (c + 4 + 2 * d) := by
    rcases (show d = 0 ∨ d = 1 by omega) with rfl | rfl
    · exact h1.2.2.2.2.2.2.2.2.2.2.2.2.2.2.2.2.2.1
    · exact h1.2.2.2.2.2.2.2.2.2.2.2.2.2.2.2.2.2.2.1
  obtain ⟨t', q, f, x1, x2, x3, x4, x5, x6⟩ := id hNd
  have h600 := hR.2.1
  have hC := hI.c3 he
  by_cases h16 : t' = 16
  · subst h16
    have hle : (16 : Int32) ≤ nI 16 := by decide
    refine ⟨up_I σ 6 2 (c + 3 + 2 * d) (hp_I σ 6 2 (c + 3 + 2 * d) + 1), ui s 28 (gi s 28 + 1), ?_, ⟨⟨h1, ?_, h2b, h3, h4, h5, h6, h7, h8, h9, h10, h11⟩, hI.upI (by decide) (Or.inl (by decide)), hR, ?_, ?_, hT⟩, fun _ => rfl, Or.inl ⟨x3, rfl⟩⟩
    · simp [f_No_add, ldI hC6, x4, hle, stI hC6]
    · obtain ⟨q1, q2, q3, q4, q5, q6, q7, q8, q9, q10, q11⟩ := h2
      refine ⟨q1, q2, q3, q4, q5, q6, q7, q8, q9, q10, ?_⟩
      show _ = gi s 28 + 1
      rw [← q11]
      rcases (show d = 0 ∨ d = 1 by omega) with rfl | rfl
      · rw [hI_I, if_pos ⟨rfl, rfl, rfl⟩, hI_I, if_neg (by omega)]
        rw [Int32.add_assoc, Int32.add_comm 1, ← Int32.add_assoc]
      · rw [hI_I, if_neg (by omega), hI_I, if_pos ⟨rfl, rfl, rfl⟩, Int32.add_assoc]
    · obtain ⟨t0, q0, f0, y1, y2, y3, y4, y5, y6⟩ := hN0
      exact ⟨t0, q0, f0, y1, y2, y3, by rw [hI_I, if_neg (by omega)]; exact y4, y5, y6⟩
    · obtain ⟨t0, q0, f0, y1, y2, y3, y4, y5, y6⟩ := hN1
      exact ⟨t0, q0, f0, y1, y2, y3, by rw [hI_I, if_neg (by omega)]; exact y4, y5, y6⟩
  · have hlt : ¬ (16 : Int32) ≤ nI t' := nI_ge (b := 16) (by omega) (by decide)
    have hne : ¬ nI t' = 16 := fun q => h16 ((nI_eq (b := 16) (by omega) (by decide)).mp q)
    have hit : ix_ (nI t') 16 = some t' := ixN (by omega) (by decide)
    have hR0 : Rest c o es n Q z W (up_A σ (c + 4 + 2 * d) (3, 16, .inr (.inr (.inr (.inr (va_up f t' (some (es e)))))))) s := h.1.upA (by omega)
    refine ⟨up_I (up_A σ (c + 4 + 2 * d) (3, 16, .inr (.inr (.inr (.inr (va_up f t' (some (es e)))))))) 6 1 (c + 3 + 2 * d) (nI t' + 1), ua (ua s 23 (16 * d + t') (nI e)) 24 d (nI t' + 1), ?_, ⟨?_, ?_, hR, ?_, ?_, ?_⟩, fun j => by simp [giui, giul, giua, giub, glui, glul, glua, glub, gaui, gaul, gaua, gaub, gbui, gbul, gbua, gbub], Or.inr ⟨by rw [x3]; exact hne, t', by omega, x3, rfl⟩⟩
    · simp [f_No_add, ldI hC6, x4, hlt, ldR hC6, hR6, asR x5 hit hC, ldI, stI, hC_A, hI_A, hC6]
    · obtain ⟨g1, g2, g2b, g3, g4, g5, g6, g7, g8, g9, g10, g11⟩ := hR0
      refine ⟨g1, ?_, g2b, g3, g4, g5, g6, g7, g8, g9, g10, g11⟩
      obtain ⟨q1, q2, q3, q4, q5, q6, q7, q8, q9, q10, q11⟩ := g2
      exact ⟨q1, q2, q3, q4, q5, q6, q7, q8, q9, q10, by rw [hI_I, if_neg (by omega), hI_I, if_neg (by omega)]; exact q11⟩
    · exact hI.upA.upI (by decide) (Or.inl (by decide))
    · by_cases hd0 : d = 0
      · subst hd0
        refine ⟨t' + 1, fun j => if j = t' then e else q j, va_up f t' (some (es e)), by omega, by omega, by simp [giui, giul, giua, giub, glui, glul, glua, glub, gaui, gaul, gaua, gaub, gbui, gbul, gbua, gbub, nI_1], by rw [hI_I, if_pos (by omega), nI_1], by rw [hA_I, hA_A, if_pos rfl], fun j j1 j2 => ?_⟩
        by_cases hj : j = t'
        · subst hj; simp [va_up, giui, giul, giua, giub, glui, glul, glua, glub, gaui, gaul, gaua, gaub, gbui, gbul, gbua, gbub]; exact he
        · obtain ⟨y1, y2, y3⟩ := x6 j j1 (by omega)
          simp only [hj, if_false, va_up]
          refine ⟨y1, y2, ?_⟩
          have : ga (ua (ua s 23 (16 * 0 + t') (nI e)) 24 0 (nI t' + 1)) 23 (16 * 0 + j) = ga s 23 (16 * 0 + j) := by simp [giui, giul, giua, giub, glui, glul, glua, glub, gaui, gaul, gaua, gaub, gbui, gbul, gbua, gbub, hj]
          rw [this]; exact y3
      · obtain ⟨t0, q0, f0, y1, y2, y3, y4, y5, y6⟩ := hN0
        refine ⟨t0, q0, f0, y1, y2, ?_, by rw [hI_I, if_neg (by omega)]; exact y4, by rw [hA_I, hA_A, if_neg (by omega)]; exact y5, fun j j1 j2 => ?_⟩
        · have : ga (ua (ua s 23 (16 * d + t') (nI e)) 24 d (nI t' + 1)) 24 0 = ga s 24 0 := by simp [giui, giul, giua, giub, glui, glul, glua, glub, gaui, gaul, gaua, gaub, gbui, gbul, gbua, gbub]; omega
          rw [this]; exact y3
        · obtain ⟨z1, z2, z3⟩ := y6 j j1 j2
          refine ⟨z1, z2, ?_⟩
          have : ga (ua (ua s 23 (16 * d + t') (nI e)) 24 d (nI t' + 1)) 23 (16 * 0 + j) = ga s 23 (16 * 0 + j) := by
            rw [gaua, if_neg (by omega), gaua, if_neg (by omega)]
          rw [this]; exact z3
    · by_cases hd1 : d = 1
      · subst hd1
        refine ⟨t' + 1, fun j => if j = t' then e else q j, va_up f t' (some (es e)), by omega, by omega, by simp [giui, giul, giua, giub, glui, glul, glua, glub, gaui, gaul, gaua, gaub, gbui, gbul, gbua, gbub, nI_1], by rw [hI_I, if_pos (by omega), nI_1], by rw [hA_I, hA_A, if_pos rfl], fun j j1 j2 => ?_⟩
        by_cases hj : j = t'
        · subst hj; simp [va_up, giui, giul, giua, giub, glui, glul, glua, glub, gaui, gaul, gaua, gaub, gbui, gbul, gbua, gbub]; exact he
        · obtain ⟨y1, y2, y3⟩ := x6 j j1 (by omega)
          simp only [hj, if_false, va_up]
          refine ⟨y1, y2, ?_⟩
          have : ga (ua (ua s 23 (16 * 1 + t') (nI e)) 24 1 (nI t' + 1)) 23 (16 * 1 + j) = ga s 23 (16 * 1 + j) := by
            rw [gaua, if_neg (by omega), gaua, if_neg (by omega)]
          rw [this]; exact y3
      · obtain ⟨t0, q0, f0, y1, y2, y3, y4, y5, y6⟩ := hN1
        refine ⟨t0, q0, f0, y1, y2, ?_, by rw [hI_I, if_neg (by omega)]; exact y4, by rw [hA_I, hA_A, if_neg (by omega)]; exact y5, fun j j1 j2 => ?_⟩
        · have : ga (ua (ua s 23 (16 * d + t') (nI e)) 24 d (nI t' + 1)) 24 1 = ga s 24 1 := by simp [giui, giul, giua, giub, glui, glul, glua, glub, gaui, gaul, gaua, gaub, gbui, gbul, gbua, gbub]; omega
          rw [this]; exact y3
        · obtain ⟨z1, z2, z3⟩ := y6 j j1 j2
          refine ⟨z1, z2, ?_⟩
          have : ga (ua (ua s 23 (16 * d + t') (nI e)) 24 d (nI t' + 1)) 23 (16 * 1 + j) = ga s 23 (16 * 1 + j) := by
            rw [gaua, if_neg (by omega), gaua, if_neg (by omega)]
          rw [this]; exact z3
    · exact (hT.upA (by omega) (by omega)).to (by rw [hI_I, if_neg (by omega)]) rfl rfl rfl (funext fun j => by simp [giui, giul, giua, giub, glui, glul, glua, glub, gaui, gaul, gaua, gaub, gbui, gbul, gbua, gbub]) (funext fun j => by simp [giui, giul, giua, giub, glui, glul, glua, glub, gaui, gaul, gaua, gaub, gbui, gbul, gbua, gbub]) (fun _ q => q) (fun x _ _ q => by simpa [giui, giul, giua, giub, glui, glul, glua, glub, gaui, gaul, gaua, gaub, gbui, gbul, gbua, gbub] using q)
theorem rem2 {k : Nat} (hk : k < 2 ^ 31) : nI k - nI k / 2 * 2 = nI (k % 2) := pk_rem (d := 2) hk (by decide) (by decide)
theorem Sim.ask (hb : hp_C b m = some 11) (h : Sim c o es n Q z W L B t σ s) (hQ : Q + 1 ≤ 599) {k : Nat} (hk : k < 1000) : ∃ r σ' s', f_W_ask (some c) (nI k) σ = some (r, σ') ∧ f_M_got (some m) (nI k) (rh b m s) = some (r, rh b m s') ∧ Sim c o es n (Q + 1) z W L B t σ' s' := by
  obtain ⟨hR, hI, hRR, hN0, hN1, hT⟩ := id h
  have h600 := hRR.2.1
  have hWF := hR.2.2.2.2.2.2.2.2.2.2.1
  obtain ⟨k0, k1, k2, k3, k4, k5, k6, k7, k8, k9, k10, k11, k12, k13, k14, k15, k16, -⟩ := id hR.1
  obtain ⟨f, fA, fM⟩ := id hR.2.2.2.2.1
  have hik : ix_ (nI k) 1000 = some k := ixN hk (by decide)
  have hs := seen_run (b := b) (m := m) hb hWF h600 hk
  have q38 : hp_I σ 1 3 (c + 21) = gi s 38 := hR.2.2.1.2.2.2.1
  have q37 : hp_I σ 1 2 (c + 21) = gi s 37 := hR.2.2.1.2.2.1
  have missR : seen s k = none → f_M_got (some m) (nI k) (rh b m s) = some (-1, rh b m (ui (ui s 38 (gi s 38 + 1)) 40 (gi s 40 + 1))) := by
    intro hq
    rw [hq] at hs
    simp [f_M_got, isOr hb, hs, pb, oI, ldIr hb, stIr hb, giui, giul, giua, giub, glui, glul, glua, glub, gaui, gaul, gaua, gaub, gbui, gbul, gbua, gbub]
  cases hm : mpo s k with
  | none =>
    refine ⟨-1, _, _, ?_, missR (by simp [seen, hm]), h.miss hQ⟩
    have fk : f k = none := by rw [fM k hk, hm]; rfl
    simp [f_W_ask, f_W_ask_22, ldR k0, k1, alR fA hik, fk, k10, ldI k16, q38, stI k16]
  | some e =>
    obtain ⟨hen, h6, h11, h20⟩ := hWF.mpo h600 hk hm
    have hC := hI.c3 hen
    have fk : f k = some (es e) := by rw [fM k hk, hm]; rfl
    have hov' := hR.over hen hC
    by_cases hov : en s e ≤ gl s 5
    · refine ⟨-1, _, _, ?_, missR (by simp [seen, hm, hov]), h.miss hQ⟩
      simp [f_W_ask, f_W_ask_22, ldR k0, k1, alR fA hik, fk, k7, isO k15, hov', pb, ovI, hov, k10, ldI k16, q38, stI k16]
    · have hseen : seen s k = some e := by simp [seen, hm, hov]
      rw [hseen] at hs
      have h1 := h.hit hQ
      obtain ⟨fp, h2⟩ := h1.pro hen
      generalize hE : en (ub (ui (ui s 37 (gi s 37 + 1)) 39 (gi s 39 + 1)) 18 e (gl (ui (ui s 37 (gi s 37 + 1)) 39 (gi s 39 + 1)) 5)) e = E at *
      have hdd : k % 2 < 2 := Nat.mod_lt _ (by decide)
      obtain ⟨σ3, s3, f3, h3, v3, ds⟩ := h2.note hb hen (d := k % 2) hdd
      have hm1 := nI_m1 (e := e) (by omega)
      have hie : ix_ (nI e) 1100 = some e := ixN (by omega) (by decide)
      have hid : ix_ (nI (k % 2)) 2 = some (k % 2) := ixN hdd (by decide)
      have hrem := rem2 (k := k) (by omega)
      have hC3 := h3.2.1.c3 hen
      have hval : hp_I σ3 3 1 (es e) = ga s 12 e := by rw [(h3.1.2.2.2.1 e hen).2.1, v3]; rfl
      refine ⟨ga s 12 e, σ3, s3, ?_, ?_, h3⟩
      · have d0 : hp_C (up_I σ 1 2 (c + 21) (gi s 37 + 1)) c = some 0 := k0
        have d7 : hp_R (up_I σ 1 2 (c + 21) (gi s 37 + 1)) 0 6 c = some (c + 14) := k7
        have d15 : hp_C (up_I σ 1 2 (c + 21) (gi s 37 + 1)) (c + 14) = some 4 := k15
        have e0 : hp_C (up_L (up_I σ 1 2 (c + 21) (gi s 37 + 1)) 3 5 (es e) E) c = some 0 := k0
        have e3 : hp_R (up_L (up_I σ 1 2 (c + 21) (gi s 37 + 1)) 3 5 (es e) E) 0 2 c = some (c + 3) := k3
        have e4 : hp_R (up_L (up_I σ 1 2 (c + 21) (gi s 37 + 1)) 3 5 (es e) E) 0 3 c = some (c + 5) := k4
        have e11 : hp_C (up_L (up_I σ 1 2 (c + 21) (gi s 37 + 1)) 3 5 (es e) E) (c + 3) = some 6 := k11
        have e12 : hp_C (up_L (up_I σ 1 2 (c + 21) (gi s 37 + 1)) 3 5 (es e) E) (c + 5) = some 6 := k12
        rcases (show k % 2 = 0 ∨ k % 2 = 1 by omega) with hz | hz
        · rw [hz] at hrem f3
          have f3' : f_No_add (some (c + 3)) (some (es e)) (up_L (up_I σ 1 2 (c + 21) (gi s 37 + 1)) 3 5 (es e) E) = some σ3 := f3
          simp only [f_W_ask, ldR k0, k1, Option.bind_some, alR fA hik, fk, reduceCtorEq, if_false, k7, isO k15, hov', pb, ovI, hov, if_true, k10, ldI k16, q37, stI k16, ldR d0, d7, isO d15, fp, hrem, nI_0, ldR e0, e3, f_W_ask_75, isO e11, f3', ldI hC3, hval]
        · rw [hz] at hrem f3
          have n1 : ¬ nI 1 = 0 := by decide
          have f3' : f_No_add (some (c + 5)) (some (es e)) (up_L (up_I σ 1 2 (c + 21) (gi s 37 + 1)) 3 5 (es e) E) = some σ3 := f3
          simp only [f_W_ask, ldR k0, k1, Option.bind_some, alR fA hik, fk, reduceCtorEq, if_false, k7, isO k15, hov', pb, ovI, hov, if_true, k10, ldI k16, q37, stI k16, ldR d0, d7, isO d15, fp, hrem, n1, ldR e0, e4, f_W_ask_75, isO e12, f3', ldI hC3, hval]
      · rcases ds with ⟨d1, d2⟩ | ⟨d1, t', d2, d3, d4⟩
        · have d1' : ga s 24 (k % 2) = 16 := d1
          rw [d2]
          simp [f_M_got, f_M_got_118, isOr hb, hs, pb, oI, hm1, ldIr hb, stIr hb, ldRr hb, ldLr hb, as18, hie, hrem, al24, hid, giui, giul, giua, giub, glui, glul, glua, glub, gaui, gaul, gaua, gaub, gbui, gbul, gbua, gbub, d1', al12]
        · have d1' : ¬ ga s 24 (k % 2) = 16 := d1
          have d3' : ga s 24 (k % 2) = nI t' := d3
          have h16 : 16 * nI (k % 2) = nI (16 * (k % 2)) := pk_mul 16 _
          have hi32 : ix_ (nI (16 * (k % 2) + t')) 32 = some (16 * (k % 2) + t') := ixN (by omega) (by decide)
          rw [d3'] at d1'
          rw [d4]
          simp [f_M_got, f_M_got_118, isOr hb, hs, pb, oI, hm1, ldIr hb, stIr hb, ldRr hb, ldLr hb, as18, hie, hrem, al24, as24, as23, hid, giui, giul, giua, giub, glui, glul, glua, glub, gaui, gaul, gaua, gaub, gbui, gbul, gbua, gbub, d3', d1', h16, nI_add, hi32, al12]
end AK
