/-! CLIMB as a whole -/
section CD
variable {b σ σ' : Hp} {m c n Q z N B B' t : Nat} {o : Nat × (Nat → Int32)} {es : Nat → Nat} {W : Nat → Int32} {s s' : RS} {L L' : Nat → List Nat}
theorem one_le {x : Nat} (h : 1 ≤ x) (hx : x < 2 ^ 31) : (1 : Int32) ≤ nI x := nI_le (a := 1) h hx
theorem not_one_le {x : Nat} (h : x < 1) : ¬ (1 : Int32) ≤ nI x := nI_ge (b := 1) h (by decide)
theorem Sim.lim (h : Sim c o es n Q z W L B t σ s) : 0 ≤ limR s ∧ limC σ c = limR s := by
  have hS := h.1.2.1
  obtain ⟨-, ⟨mx, w, st, r, a, d, g1, g2, g3, g4, g5, g6, -⟩, -⟩ := h.1.2.2.2.2.2.2.2.2.2.2.2
  constructor
  · unfold limR
    rw [g1, g4, pk_sub g6, show (4 : Int32) = nI 4 from rfl, pk_mul, show (5 : Int32) = nI 5 from rfl, pk_div (by omega) (by decide) (by decide)]
    exact nI_pos' (by omega)
  · unfold limC limR
    rw [hS.2.2.2.2.2.2.2.2.1, hS.2.2.2.2.2.2.2.2.2.1]
theorem Sim.trim (hb : hp_C b m = some 11) (hN : 1000 ≤ N) (h : Sim c o es n Q z W L (B + 600) t σ s) : ∃ σ' s' L', f_Rs_trimShielded N (some (c + 17)) σ = some σ' ∧ f_M_lower N (some m) (rh b m s) = some (rh b m s') ∧ Sim c o es n Q z W L' B t σ' s' := by
  obtain ⟨l0, le⟩ := h.lim
  have hI := h.2.1
  have hR := h.2.2.1
  have h600 := hR.2.1
  have l3 := hI.len i3
  obtain ⟨σ', f1, j1, m1⟩ := hI.trim (N := N) (by omega) (by omega)
  obtain ⟨s', f2, r2, m2⟩ := hR.lower hb hN l0
  unfold limC at le
  rw [le] at j1
  exact ⟨σ', s', _, f1, f2, h.rooms m1 m2 j1 r2 (fun e he => inL_trim _ _ he)⟩
theorem iabs_sub {R r : Nat} (hR : R < 2 ^ 30) (hr : r < 2 ^ 30) : (if nI r ≤ nI R then nI R - nI r else nI r - nI R) = iabs_ (nI R - nI r) := by
  unfold iabs_
  by_cases h : r ≤ R
  · rw [if_pos (nI_le h (by omega)), pk_sub h, if_pos (nI_pos' (by omega))]
  · rw [if_neg (nI_ge (by omega) (by omega)), if_neg (Int32.not_le.mpr (pk_sneg hr (by omega)))]
    rw [Int32.zero_sub, Int32.neg_sub]
theorem climb_run (hb : hp_C b m = some 11) {rn : Int32} (h36 : gi s 36 = 0 ∨ gi s 36 = 1) (hab : (if gi s 34 ≤ rn then rn - gi s 34 else gi s 34 - rn) = iabs_ (rn - gi s 34)) (hdue : 10 * gi s 1 ≤ gi s 39 + gi s 40) (hq : ¬ (gi s 39 + gi s 40).toInt64 = 0) (hrn : Int64.toInt32 ((1000 * (gi s 39).toInt64) / (gi s 39 + gi s 40).toInt64) = rn) : ∃ s', f_M_climb N (some m) (rh b m s) = f_M_climb_231 N N (some m) (upN (gi s 34) rn (gi s 36)) (rh b m s') ∧ RNu s s' ∧ (∀ k, k ≠ 32 → k ≠ 33 → k ≠ 34 → k ≠ 36 → k ≠ 39 → k ≠ 40 → gi s' k = gi s k) ∧ gi s' 36 = upN (gi s 34) rn (gi s 36) ∧ gi s' 33 = stN (gi s 34) rn (gi s 33) (imax_ 1 (gi s 1 / 16)) ∧ gi s' 34 = rn ∧ gi s' 39 = 0 ∧ gi s' 40 = 0 ∧ gi s' 32 = wnN (upN (gi s 34) rn (gi s 36)) (gi s 32) (gi s 33) (gi s 1) := by
  by_cases hle : gi s 34 ≤ rn
  · have hu : upN (gi s 34) rn (gi s 36) = gi s 36 := by unfold upN; rw [if_pos hle]
    rw [hu]
    obtain ⟨s', f1, r1, r2, r3, r4, r5, r6, r7⟩ := climb_66 (N := N) (s := s) hb (rn := rn) h36 hab
    refine ⟨s', ?_, r1, fun k a1 a2 a3 _ a5 a6 => r2 k a1 a2 a3 a5 a6, r2 36 (by decide) (by decide) (by decide) (by decide) (by decide), r3, r4, r5, r6, r7⟩
    rw [← f1]
    simp [f_M_climb, ldIr hb, hdue, hq, hrn, hle]
  · have key : ∀ v : Int32, (v = 0 ∨ v = 1) → upN (gi s 34) rn (gi s 36) = v → (f_M_climb N (some m) (rh b m s) = f_M_climb_66 N (some m) rn (rh b m (ui s 36 v))) → ∃ s', f_M_climb N (some m) (rh b m s) = f_M_climb_231 N N (some m) (upN (gi s 34) rn (gi s 36)) (rh b m s') ∧ RNu s s' ∧ (∀ k, k ≠ 32 → k ≠ 33 → k ≠ 34 → k ≠ 36 → k ≠ 39 → k ≠ 40 → gi s' k = gi s k) ∧ gi s' 36 = upN (gi s 34) rn (gi s 36) ∧ gi s' 33 = stN (gi s 34) rn (gi s 33) (imax_ 1 (gi s 1 / 16)) ∧ gi s' 34 = rn ∧ gi s' 39 = 0 ∧ gi s' 40 = 0 ∧ gi s' 32 = wnN (upN (gi s 34) rn (gi s 36)) (gi s 32) (gi s 33) (gi s 1) := by
      intro v hv hu hf
      obtain ⟨s', f1, r1, r2, r3, r4, r5, r6, r7⟩ := climb_66 (N := N) (b := b) (m := m) (s := ui s 36 v) hb (rn := rn) (by simp [giui, giul, giua, giub, glui, glul, glua, glub, gaui, gaul, gaua, gaub, gbui, gbul, gbua, gbub, hv]) (by simp [giui, giul, giua, giub, glui, glul, glua, glub, gaui, gaul, gaua, gaub, gbui, gbul, gbua, gbub]; exact hab)
      simp [giui, giul, giua, giub, glui, glul, glua, glub, gaui, gaul, gaua, gaub, gbui, gbul, gbua, gbub] at f1 r3 r7
      rw [hu]
      refine ⟨s', hf.trans f1, ?_, fun k a1 a2 a3 a4 a5 a6 => ?_, ?_, r3, r4, r5, r6, r7⟩
      · refine ⟨fun k hk => ?_, r1.2.1, r1.2.2.1, r1.2.2.2⟩
        rw [r1.1 k hk]; simp [giui, giul, giua, giub, glui, glul, glua, glub, gaui, gaul, gaua, gaub, gbui, gbul, gbua, gbub]; omega
      · rw [r2 k a1 a2 a3 a5 a6]; simp [giui, giul, giua, giub, glui, glul, glua, glub, gaui, gaul, gaua, gaub, gbui, gbul, gbua, gbub, a4]
      · rw [r2 36 (by decide) (by decide) (by decide) (by decide) (by decide)]; simp [giui, giul, giua, giub, glui, glul, glua, glub, gaui, gaul, gaua, gaub, gbui, gbul, gbua, gbub]
    rcases h36 with h36 | h36
    · refine key 1 (Or.inr rfl) (by unfold upN; rw [if_neg hle, h36, if_pos rfl]) ?_
      simp [f_M_climb, f_M_climb_63, ldIr hb, stZ1r hb, hdue, hq, hrn, hle, h36]
    · refine key 0 (Or.inl rfl) (by unfold upN; rw [if_neg hle, h36, if_neg (by decide)]) ?_
      simp [f_M_climb, f_M_climb_63, ldIr hb, stZ0r hb, hdue, hq, hrn, hle, h36]
theorem wn_ok {u : Int32} {w st mx : Nat} (h1 : 1 ≤ mx) (h2 : mx ≤ 5000) (h3 : 1 ≤ w) (h4 : w ≤ mx) (h5 : 1 ≤ st) (h6 : st ≤ 5000) : (∃ w', 1 ≤ w' ∧ w' ≤ mx ∧ wnN u (nI w) (nI st) (nI mx) = nI w') ∧ imax_ 1 (imin_ (nI w + (if u = 0 then -nI st else nI st)) (nI mx - 1)) = wnN u (nI w) (nI st) (nI mx) := by
  have e1 : nI mx - 1 = nI (mx - 1) := by
    have := pk_sub (a := mx) (b := 1) h1
    exact this
  have o1 : (1 : Int32) = nI 1 := rfl
  unfold wnN
  by_cases hu : u = 0
  · rw [if_pos hu, if_pos hu]
    have e2 : nI w + -nI st = nI w - nI st := (Int32.sub_eq_add_neg _ _).symm
    rw [e2, imax1, imin_le, e1]
    by_cases hle : st < w
    · rw [pk_sub (by omega)]
      have : nI (w - st) ≤ nI (mx - 1) := nI_le (by omega) (by omega)
      rw [if_pos this]
      have h11 : (1 : Int32) ≤ nI (w - st) := nI_le (a := 1) (by omega) (by omega)
      rw [if_pos h11]
      exact ⟨⟨w - st, by omega, by omega, rfl⟩, rfl⟩
    · have hneg : nI w - nI st ≤ 0 := by
        rcases (show w = st ∨ w < st by omega) with rfl | hlt
        · rw [Int32.sub_self]; decide
        · exact Int32.le_of_lt (pk_sneg (by omega) hlt)
      have h0 : (0 : Int32) ≤ nI (mx - 1) := nI_pos' (by omega)
      rw [if_pos (Int32.le_trans hneg h0)]
      have h11 : ¬ (1 : Int32) ≤ nI w - nI st := fun z => absurd (Int32.le_trans z hneg) (by decide)
      rw [if_neg h11]
      exact ⟨⟨1, by omega, by omega, rfl⟩, rfl⟩
  · rw [if_neg hu, if_neg hu, imax1, imin_le]
    refine ⟨?_, rfl⟩
    rw [nI_add, e1]
    by_cases hle : w + st ≤ mx - 1
    · rw [if_pos (nI_le hle (by omega)), if_pos (one_le (by omega) (by omega))]
      exact ⟨w + st, by omega, by omega, rfl⟩
    · rw [if_neg (nI_ge (by omega) (by omega))]
      by_cases h7 : 1 ≤ mx - 1
      · rw [if_pos (one_le h7 (by omega))]
        exact ⟨mx - 1, by omega, by omega, rfl⟩
      · rw [if_neg (not_one_le (by omega))]
        exact ⟨1, by omega, by omega, rfl⟩
theorem st_ok {rate rn : Int32} {st mx : Nat} (h2 : mx ≤ 5000) (h6 : st ≤ 5000) : ∃ st', 1 ≤ st' ∧ st' ≤ 5000 ∧ stN rate rn (nI st) (imax_ 1 (nI mx / 16)) = nI st' := by
  unfold stN
  split
  · rw [imax1, show (63 : Int32) = nI 63 from rfl, pk_mul, show (64 : Int32) = nI 64 from rfl, pk_div (by omega) (by decide) (by decide)]
    by_cases h : 1 ≤ st * 63 / 64
    · rw [if_pos (one_le h (by omega))]; exact ⟨_, h, by omega, rfl⟩
    · rw [if_neg (not_one_le (by omega))]; exact ⟨1, by omega, by omega, rfl⟩
  · rw [imax1, show (16 : Int32) = nI 16 from rfl, pk_div (by omega) (by decide) (by decide)]
    by_cases h : 1 ≤ mx / 16
    · rw [if_pos (one_le h (by omega))]; exact ⟨_, h, by omega, rfl⟩
    · rw [if_neg (not_one_le (by omega))]; exact ⟨1, by omega, by omega, rfl⟩
theorem Sim.climb (hb : hp_C b m = some 11) (hN : 3000 ≤ N) (h : Sim c o es n Q z W L (B + 2000) 0 σ s) : ∃ σ' s' L', f_W_climbIfDue N (some c) σ = some σ' ∧ f_M_climb N (some m) (rh b m s) = some (rh b m s') ∧ Sim c o es n Q z W L' B 0 σ' s' := by
  obtain ⟨hR, hI, hRR, hN0, hN1, hT⟩ := id h
  have h600 := hRR.2.1
  obtain ⟨k0, k1, k2, k3, k4, k5, k6, k7, k8, k9, k10, k11, k12, k13, k14, k15, k16, -⟩ := id hR.1
  have hS := hR.2.1
  have hS2 := hR.2.2.1
  obtain ⟨w0, ⟨mx, w, st, r, a, d, g1, g2, g3, g4, g5, g6, g7, g8, g9, g10, g11, g12, g13, g14⟩, g36, w2, w3, w4, w5, w6⟩ := hR.2.2.2.2.2.2.2.2.2.2.2
  have hdue := due_run h
  by_cases hlt : gi s 39 + gi s 40 < 10 * gi s 1
  · rw [if_pos hlt] at hdue
    have hnd : ¬ 10 * gi s 1 ≤ gi s 39 + gi s 40 := Int32.not_le.mpr hlt
    refine ⟨σ, s, L, ?_, ?_, h.le (by omega)⟩
    · simp [f_W_climbIfDue, ldR k0, k10, isO k16, hdue, pb]
    · simp [f_M_climb, ldIr hb, hnd]
  · rw [if_neg hlt] at hdue
    have hd : 10 * gi s 1 ≤ gi s 39 + gi s 40 := Int32.not_lt.mp hlt
    have hd2 : 10 * mx ≤ a + d := by
      rw [g1, g12, g13, show (10 : Int32) = nI 10 from rfl, pk_mul, nI_add, nI_leI (by omega) (by omega)] at hd
      exact hd
    have hsum : gi s 39 + gi s 40 = nI (a + d) := by rw [g12, g13, nI_add]
    have hpos : 0 < gi s 39 + gi s 40 := by rw [hsum]; exact nI_lt (a := 0) (by omega) (by omega)
    have hRd : 1000 * a / (a + d) ≤ 1000 := Nat.div_le_of_le_mul (by rw [Nat.mul_comm]; exact Nat.mul_le_mul_right 1000 (by omega))
    have hrnC : 1000 * gi s 39 / (gi s 39 + gi s 40) = nI (1000 * a / (a + d)) := by
      rw [hsum, g12, show (1000 : Int32) = nI 1000 from rfl, pk_mul, pk_div (by omega) (by omega) (by omega)]
    have hq64 : ¬ (gi s 39 + gi s 40).toInt64 = 0 := by
      rw [hsum, nI_l (by omega)]
      intro q
      have := (lN_eq (a := a + d) (b := 0) (by omega) (by omega)).mp q
      omega
    have hrnR : Int64.toInt32 ((1000 * (gi s 39).toInt64) / (gi s 39 + gi s 40).toInt64) = nI (1000 * a / (a + d)) := by
      rw [hsum, g12, nI_l (by omega), nI_l (by omega), show (1000 : Int64) = lN 1000 from rfl, lN_mul, lN_div (by omega) (by omega) (by omega), lN_i]
    have hab : (if gi s 34 ≤ nI (1000 * a / (a + d)) then nI (1000 * a / (a + d)) - gi s 34 else gi s 34 - nI (1000 * a / (a + d))) = iabs_ (nI (1000 * a / (a + d)) - gi s 34) := by
      rw [g10]; exact iabs_sub (by omega) (by omega)
    generalize hRR' : 1000 * a / (a + d) = R at *
    obtain ⟨σ1, f1, m1, p0, p1, p2, p3, p4, p5, p6, p7, p8, p9⟩ := change_run k16 hS2 g36 hpos hrnC
    obtain ⟨s1, f2, r1, r2, r3, r4, r5, r6, r7, r8⟩ := climb_run (N := N) hb g36 hab hd hq64 hrnR
    have hu01 : upN (gi s 34) (nI R) (gi s 36) = 0 ∨ upN (gi s 34) (nI R) (gi s 36) = 1 := by
      unfold upN
      split
      · exact g36
      · split
        · exact Or.inr rfl
        · exact Or.inl rfl
    generalize hu : upN (gi s 34) (nI R) (gi s 36) = u at *
    obtain ⟨⟨w', hw1, hw2, hw3⟩, hwC⟩ := wn_ok (u := u) (w := w) (st := st) (mx := mx) g2 g3 g5 g6 g8 g9
    obtain ⟨st', hs1, hs2, hs3⟩ := st_ok (rate := gi s 34) (rn := nI R) (st := st) (mx := mx) g3 g9
    rw [← g1, ← g4, ← g7] at hwC hw3
    rw [← g1, ← g7] at hs3
    -- the class's window
    have hC17 : hp_C σ1 (c + 17) = some 8 := by rw [m1.2.1]; exact hI.1.1
    have fW : f_Rs_changeWindow (some (c + 17)) (if u = 0 then -gi s 33 else gi s 33) σ1 = some (up_I σ1 8 4 (c + 17) (nI w')) := by
      have a1 : hp_I σ1 8 4 (c + 17) = gi s 32 := by rw [p0 8 4 _ (by decide)]; exact hS.2.2.2.2.2.2.2.2.2.1
      have a2 : hp_I σ1 8 0 (c + 17) = gi s 1 := by rw [p0 8 0 _ (by decide)]; exact hS.2.2.2.2.2.2.2.2.1
      simp [f_Rs_changeWindow, ldI hC17, stI hC17, a1, a2, hwC, hw3]
    have hw32 : gi s1 32 = nI w' := r8.trans hw3
    have h1 : Sim c o es n Q z W L (B + 2000) 0 (up_I σ1 8 4 (c + 17) (nI w')) s1 := by
      refine h.num (MNu.trans m1 ⟨rfl, fun _ => rfl, fun _ _ _ => rfl, fun _ _ _ => rfl, fun y j x _ _ hx => by simp [hI_I, hx], fun _ => rfl⟩) r1 ?_ ?_ ?_
      · obtain ⟨q1, q2, q3, q4, q5, q6, q7, q8, q9, q10, q11⟩ := hS
        have pI : ∀ x k y, x ≠ 1 → x ≠ 8 → hp_I (up_I σ1 8 4 (c + 17) (nI w')) x k y = hp_I σ x k y := fun x k y hx hx8 => by
          rw [hI_I, if_neg (fun q => hx8 q.1), p0 x k y hx]
        refine ⟨?_, ?_, ?_, ?_, ?_, ?_, ?_, ?_, ?_, ?_, ?_⟩
        · rw [pI _ _ _ (by decide) (by decide), r2 35 (by decide) (by decide) (by decide) (by decide) (by decide) (by decide)]; exact q1
        · rw [pI _ _ _ (by decide) (by decide), r2 41 (by decide) (by decide) (by decide) (by decide) (by decide) (by decide)]; exact q2
        · rw [pI _ _ _ (by decide) (by decide), r2 42 (by decide) (by decide) (by decide) (by decide) (by decide) (by decide)]; exact q3
        · rw [pI _ _ _ (by decide) (by decide), r2 43 (by decide) (by decide) (by decide) (by decide) (by decide) (by decide)]; exact q4
        · rw [pI _ _ _ (by decide) (by decide), r2 44 (by decide) (by decide) (by decide) (by decide) (by decide) (by decide)]; exact q5
        · rw [pI _ _ _ (by decide) (by decide), r2 2 (by decide) (by decide) (by decide) (by decide) (by decide) (by decide)]; exact q6
        · rw [pI _ _ _ (by decide) (by decide), r2 3 (by decide) (by decide) (by decide) (by decide) (by decide) (by decide)]; exact q7
        · rw [hL_I, m1.2.2.2.1, r1.2.2.1]; exact q8
        · rw [hI_I, if_neg (by simp), p0 8 0 _ (by decide), r2 1 (by decide) (by decide) (by decide) (by decide) (by decide) (by decide)]; exact q9
        · rw [hI_I, if_pos (by simp), hw32]
        · rw [pI _ _ _ (by decide) (by decide), pI _ _ _ (by decide) (by decide), r2 28 (by decide) (by decide) (by decide) (by decide) (by decide) (by decide)]; exact q11
      · have pI : ∀ k y, hp_I (up_I σ1 8 4 (c + 17) (nI w')) 1 k y = hp_I σ1 1 k y := fun k y => by rw [hI_I, if_neg (fun q => by cases q.1)]
        have e37 := r2 37 (by decide) (by decide) (by decide) (by decide) (by decide) (by decide)
        have e38 := r2 38 (by decide) (by decide) (by decide) (by decide) (by decide) (by decide)
        have e1 := r2 1 (by decide) (by decide) (by decide) (by decide) (by decide) (by decide)
        refine ⟨?_, ?_, ?_, ?_, ?_, ?_, ?_, ?_, ?_⟩
        · rw [pI, e1]; exact p1
        · rw [pI, e1]; exact p2
        · rw [pI, e37]; exact p3
        · rw [pI, e38]; exact p4
        · rw [pI, e37, r6, Int32.sub_zero]; exact p5
        · rw [pI, e37, e38, r6, r7, Int32.add_zero, Int32.sub_zero]; exact p6
        · rw [pI, r5]; exact p7
        · rw [pI, r4]; exact p8
        · rw [pI, r3]; exact p9
      · refine ⟨by rw [r1.2.2.1]; exact w0, ⟨mx, w', st', R, 0, 0, ?_, g2, g3, hw32, hw1, hw2, r4.trans hs3, hs1, hs2, r5, by omega, r6, r7, by omega⟩, by rw [r3]; exact hu01, ?_, ?_, w4, w5, ⟨fun e he => by rw [r1.2.1]; exact w6.1 e he, fun k hk => by rw [r1.2.1]; exact w6.2.1 k hk, (r2 0 (by decide) (by decide) (by decide) (by decide) (by decide) (by decide)).trans w6.2.2⟩⟩
        · rw [r2 1 (by decide) (by decide) (by decide) (by decide) (by decide) (by decide)]; exact g1
        · rw [r2 2 (by decide) (by decide) (by decide) (by decide) (by decide) (by decide)]; exact w2
        · rw [r2 3 (by decide) (by decide) (by decide) (by decide) (by decide) (by decide)]; exact w3
    have hI1 := h1.2.1
    have hRR1 := h1.2.2.1
    have hup : hp_I (up_I σ1 8 4 (c + 17) (nI w')) 1 8 (c + 21) = u := by rw [hI_I, if_neg (by simp)]; exact p9
    have hl4 : hp_I (up_I σ1 8 4 (c + 17) (nI w')) 8 4 (c + 17) = nI w' := by rw [hI_I, if_pos (by simp)]
    have kk0 : hp_C σ1 c = some 0 := by rw [m1.2.1]; exact k0
    have kk9 : hp_R σ1 0 8 c = some (c + 17) := by rw [m1.2.2.1]; exact k9
    have hw0 : (0 : Int32) ≤ nI w' := nI_pos' (by omega)
    rcases hu01 with rfl | rfl
    · -- down
      obtain ⟨σ2, f3, j3, m3⟩ := hI1.spill (N := N) h600 (by omega)
      rw [hl4] at j3
      have ln1 := hI1.len i1
      obtain ⟨s2, f4, q4, m4⟩ := spillR2 (N := N) (B := B + 1400) hb (by omega) (nI w') hw0 N (L 1).length s1 L (hRR1.le (by omega)) hw32 r3 rfl (by omega)
      have h2 : Sim c o es n Q z W _ (B + 1400) 0 σ2 s2 := h1.rooms m3 m4 j3 q4 (fun e he => inL_spill _ _ he)
      obtain ⟨σ', s', L', f5, f6, h3⟩ := (h2.le (B' := B + 600) (by omega)).trim hb (N := N) (by omega)
      refine ⟨σ', s', L', ?_, ?_, h3⟩
      · have s9 : hp_R (up_I σ1 8 4 (c + 17) (nI w')) 0 9 c = some (c + 21) := h1.1.1.2.2.2.2.2.2.2.2.2.2.1
        rw [if_pos rfl] at f1 fW
        simp [f_W_climbIfDue, f_W_climbIfDue_53, ldR k0, k10, k9, isO k16, hdue, pb, f1, isO hC17, fW, ldR h1.1.1.1, s9, ldI h1.1.1.2.2.2.2.2.2.2.2.2.2.2.2.2.2.2.2.1, hup, h1.1.1.2.2.2.2.2.2.2.2.2.1, isO hI1.1.1, f3, ldR h2.1.1.1, h2.1.1.2.2.2.2.2.2.2.2.2.1, isO h2.2.1.1.1, f5]
      · have e308 : f_M_climb_231 N N (some m) 0 (rh b m s1) = f_M_climb_308 N N (some m) (rh b m s1) := by
          cases N with
          | zero => omega
          | succ N => simp [f_M_climb_231]
        rw [f2, e308, f4]
        simp [f_M_climb_340, isOr hb, f6]
    · -- up
      obtain ⟨σ2, f3, j3, m3⟩ := hI1.fill (N := N) h600 (by omega)
      rw [hl4] at j3
      have ln2 := hI1.len i2
      have ln3 := hI1.len i3
      obtain ⟨s2, f4, q4, m4⟩ := fillR (N := N) (B := B + 600) hb (by omega) (nI w') N ((L 2).length + (L 3).length) s1 L (hRR1.le (by omega)) hw32 rfl (by omega)
      have h2 : Sim c o es n Q z W _ (B + 600) 0 σ2 s2 := h1.rooms m3 m4 j3 q4 (fun e he => inL_fill _ _ he)
      obtain ⟨σ', s', L', f5, f6, h3⟩ := h2.trim hb (N := N) (by omega)
      refine ⟨σ', s', L', ?_, ?_, h3⟩
      · have s9 : hp_R (up_I σ1 8 4 (c + 17) (nI w')) 0 9 c = some (c + 21) := h1.1.1.2.2.2.2.2.2.2.2.2.2.1
        have e1 : ¬ (1 : Int32) = 0 := by decide
        rw [if_neg e1] at f1 fW
        simp [f_W_climbIfDue, f_W_climbIfDue_53, ldR k0, k10, k9, isO k16, hdue, pb, f1, isO hC17, fW, ldR h1.1.1.1, s9, ldI h1.1.1.2.2.2.2.2.2.2.2.2.2.2.2.2.2.2.2.1, hup, h1.1.1.2.2.2.2.2.2.2.2.2.1, isO hI1.1.1, f3, ldR h2.1.1.1, h2.1.1.2.2.2.2.2.2.2.2.2.1, isO h2.2.1.1.1, f5]
      · have e340 : f_M_climb_308 N N (some m) (rh b m s2) = f_M_climb_340 N (some m) (rh b m s2) := by
          have h36' : gi s2 36 = 1 := by rw [m4.1]; exact r3
          cases N with
          | zero => omega
          | succ N => simp [f_M_climb_308, ldIr hb, h36']
        rw [f2, f4, e340]
        simp [f_M_climb_340, isOr hb, f6]
end CD
