/-! CLIMB, the numbers -/
def upN (rate rn up : Int32) : Int32 := if rate ≤ rn then up else if up = 0 then 1 else 0
def stN (rate rn st fs : Int32) : Int32 := if iabs_ (rn - rate) < 50 then imax_ 1 (st * 63 / 64) else fs
section CC
variable {b σ σ' : Hp} {m c n Q z N B B' t : Nat} {o : Nat × (Nat → Int32)} {es : Nat → Nat} {W : Nat → Int32} {s s' : RS} {L L' : Nat → List Nat}
theorem change_tail (hC : hp_C σ (c + 21) = some 1) {rn st rate fs : Int32} (h8 : hp_I σ 1 8 (c + 21) = 0 ∨ hp_I σ 1 8 (c + 21) = 1) (h7 : hp_I σ 1 7 (c + 21) = st) (h6 : hp_I σ 1 6 (c + 21) = rate) (h1 : hp_I σ 1 1 (c + 21) = fs) : ∃ σ', f_Cl_change_61 (some (c + 21)) rn σ = some (if hp_I σ 1 8 (c + 21) = 0 then -st else st, σ') ∧ MNu σ σ' ∧ (∀ x k a, x ≠ 1 → hp_I σ' x k a = hp_I σ x k a) ∧ hp_I σ' 1 0 (c + 21) = hp_I σ 1 0 (c + 21) ∧ hp_I σ' 1 1 (c + 21) = hp_I σ 1 1 (c + 21) ∧ hp_I σ' 1 2 (c + 21) = hp_I σ 1 2 (c + 21) ∧ hp_I σ' 1 3 (c + 21) = hp_I σ 1 3 (c + 21) ∧ hp_I σ' 1 4 (c + 21) = hp_I σ 1 2 (c + 21) ∧ hp_I σ' 1 5 (c + 21) = hp_I σ 1 2 (c + 21) + hp_I σ 1 3 (c + 21) ∧ hp_I σ' 1 6 (c + 21) = rn ∧ hp_I σ' 1 7 (c + 21) = stN rate rn st fs ∧ hp_I σ' 1 8 (c + 21) = hp_I σ 1 8 (c + 21) := by
  generalize hw : stN rate rn st fs = w
  refine ⟨up_I (up_I (up_I (up_I σ 1 7 (c + 21) w) 1 6 (c + 21) rn) 1 4 (c + 21) (hp_I σ 1 2 (c + 21))) 1 5 (c + 21) (hp_I σ 1 2 (c + 21) + hp_I σ 1 3 (c + 21)), ?_, ⟨rfl, fun _ => rfl, fun _ _ _ => rfl, fun _ _ _ => rfl, fun x k a _ hx _ => by simp [hI_I, hx], fun _ => rfl⟩, fun x k a hx => by simp [hI_I, hx], by simp [hI_I], by simp [hI_I], by simp [hI_I], by simp [hI_I], by simp [hI_I], by simp [hI_I], by simp [hI_I], by simp [hI_I], by simp [hI_I]⟩
  by_cases hd : iabs_ (rn - rate) < 50
  · have hw' : w = imax_ 1 (st * 63 / 64) := by rw [← hw]; unfold stN; rw [if_pos hd]
    subst hw'
    rcases h8 with h8 | h8
    · simp [f_Cl_change_61, f_Cl_change_80, f_Cl_change_100, f_Cl_change_129, ldI, stI, hC, h8, h7, h6, hd, hC_I, hI_I]
    · simp [f_Cl_change_61, f_Cl_change_80, f_Cl_change_100, f_Cl_change_129, ldI, stI, hC, h8, h7, h6, hd, hC_I, hI_I]
  · have hw' : w = fs := by rw [← hw]; unfold stN; rw [if_neg hd]
    subst hw'
    rcases h8 with h8 | h8
    · simp [f_Cl_change_61, f_Cl_change_80, f_Cl_change_100, f_Cl_change_129, ldI, stI, hC, h8, h7, h6, h1, hd, hC_I, hI_I]
    · simp [f_Cl_change_61, f_Cl_change_80, f_Cl_change_100, f_Cl_change_129, ldI, stI, hC, h8, h7, h6, h1, hd, hC_I, hI_I]
theorem MNu.trans {σ1 σ2 : Hp} (h : MNu σ σ1) (g : MNu σ1 σ2) : MNu σ σ2 := ⟨g.1.trans h.1, fun a => (g.2.1 a).trans (h.2.1 a), fun x k a => (g.2.2.1 x k a).trans (h.2.2.1 x k a), fun x k a => (g.2.2.2.1 x k a).trans (h.2.2.2.1 x k a), fun x k a p q r => (g.2.2.2.2.1 x k a p q r).trans (h.2.2.2.2.1 x k a p q r), fun a => (g.2.2.2.2.2 a).trans (h.2.2.2.2.2 a)⟩
theorem MNu.I1 {k a : Nat} {x : Int32} : MNu σ (up_I σ 1 k a x) := ⟨rfl, fun _ => rfl, fun _ _ _ => rfl, fun _ _ _ => rfl, fun y j d _ hx _ => by simp [hI_I, hx], fun _ => rfl⟩
theorem change_run (hC : hp_C σ (c + 21) = some 1) (hS : SCb σ c s) (h36 : gi s 36 = 0 ∨ gi s 36 = 1) (hq : 0 < gi s 39 + gi s 40) {rn : Int32} (hrn : 1000 * gi s 39 / (gi s 39 + gi s 40) = rn) : ∃ σ', f_Cl_change (some (c + 21)) σ = some (if upN (gi s 34) rn (gi s 36) = 0 then -gi s 33 else gi s 33, σ') ∧ MNu σ σ' ∧ (∀ x k a, x ≠ 1 → hp_I σ' x k a = hp_I σ x k a) ∧ hp_I σ' 1 0 (c + 21) = 10 * gi s 1 ∧ hp_I σ' 1 1 (c + 21) = imax_ 1 (gi s 1 / 16) ∧ hp_I σ' 1 2 (c + 21) = gi s 37 ∧ hp_I σ' 1 3 (c + 21) = gi s 38 ∧ hp_I σ' 1 4 (c + 21) = gi s 37 ∧ hp_I σ' 1 5 (c + 21) = gi s 37 + gi s 38 ∧ hp_I σ' 1 6 (c + 21) = rn ∧ hp_I σ' 1 7 (c + 21) = stN (gi s 34) rn (gi s 33) (imax_ 1 (gi s 1 / 16)) ∧ hp_I σ' 1 8 (c + 21) = upN (gi s 34) rn (gi s 36) := by
  obtain ⟨q1, q2, q3, q4, q5, q6, q7, q8, q9⟩ := id hS
  have hq0 : ¬ gi s 39 + gi s 40 = 0 := fun z => by rw [z] at hq; exact absurd hq (by decide)
  by_cases hle : gi s 34 ≤ rn
  · obtain ⟨σ', f1, m1, g0, g1, g2, g3, g4, g5, g6, g7, g8, g9⟩ := change_tail (rn := rn) hC (by rw [q9]; exact h36) q8 q7 q2
    have hu : upN (gi s 34) rn (gi s 36) = gi s 36 := by unfold upN; rw [if_pos hle]
    rw [hu]
    rw [q9] at f1 g9
    rw [q3] at g3 g5 g6
    rw [q4] at g4 g6
    refine ⟨σ', ?_, m1, g0, g1.trans q1, g2.trans q2, g3, g4, g5, g6, g7, g8, g9⟩
    simp [f_Cl_change, ldI, hC, q3, q4, q5, q6, q7, s_ss, hq, hq0, hrn, hle, f1]
  · rcases h36 with h36 | h36
    · have hu : upN (gi s 34) rn (gi s 36) = 1 := by unfold upN; rw [if_neg hle, h36, if_pos rfl]
      obtain ⟨σ', f1, m1, g0, g1, g2, g3, g4, g5, g6, g7, g8, g9⟩ := change_tail (σ := up_I σ 1 8 (c + 21) 1) (c := c) (rn := rn) (st := gi s 33) (rate := gi s 34) (fs := imax_ 1 (gi s 1 / 16)) hC (by simp [hI_I]) (by simp [hI_I, q8]) (by simp [hI_I, q7]) (by simp [hI_I, q2])
      rw [hu]
      simp only [hI_I] at f1 g0 g1 g2 g3 g4 g5 g6 g9
      simp at f1 g1 g2 g3 g4 g5 g6 g9
      rw [q3] at g3 g5 g6
      rw [q4] at g4 g6
      refine ⟨σ', ?_, (MNu.I1 (k := 8) (a := c + 21) (x := 1)).trans m1, fun x k a hx => by rw [g0 x k a hx, if_neg (fun z => hx z.1)], g1.trans q1, g2.trans q2, g3, g4, g5, g6, g7, g8, g9⟩
      rw [show ((if (1 : Int32) = 0 then -gi s 33 else gi s 33)) = gi s 33 from by simp]
      simp [f_Cl_change, f_Cl_change_58, ldI, stZ1, hC, q3, q4, q5, q6, q7, q9, h36, s_ss, hq, hq0, hrn, hle, f1]
    · have hu : upN (gi s 34) rn (gi s 36) = 0 := by unfold upN; rw [if_neg hle, h36, if_neg (by decide)]
      obtain ⟨σ', f1, m1, g0, g1, g2, g3, g4, g5, g6, g7, g8, g9⟩ := change_tail (σ := up_I σ 1 8 (c + 21) 0) (c := c) (rn := rn) (st := gi s 33) (rate := gi s 34) (fs := imax_ 1 (gi s 1 / 16)) hC (by simp [hI_I]) (by simp [hI_I, q8]) (by simp [hI_I, q7]) (by simp [hI_I, q2])
      rw [hu]
      simp only [hI_I] at f1 g0 g1 g2 g3 g4 g5 g6 g9
      simp at f1 g1 g2 g3 g4 g5 g6 g9
      rw [q3] at g3 g5 g6
      rw [q4] at g4 g6
      refine ⟨σ', ?_, (MNu.I1 (k := 8) (a := c + 21) (x := 0)).trans m1, fun x k a hx => by rw [g0 x k a hx, if_neg (fun z => hx z.1)], g1.trans q1, g2.trans q2, g3, g4, g5, g6, g7, g8, g9⟩
      simp [f_Cl_change, f_Cl_change_58, ldI, stZ0, hC, q3, q4, q5, q6, q7, q9, h36, s_ss, hq, hq0, hrn, hle, f1]
/-! the reference -/
def wnN (u w st mx : Int32) : Int32 := if 1 ≤ (if u = 0 then w - st else if w + st ≤ mx - 1 then w + st else mx - 1) then (if u = 0 then w - st else if w + st ≤ mx - 1 then w + st else mx - 1) else 1
def clS (s : RS) (u st r w0 w : Int32) : RS := ui (ui (ui (ui (ui (ui (ui s 36 u) 33 st) 34 r) 39 0) 40 0) 32 w0) 32 w
theorem climb_137 (hb : hp_C b m = some 11) {rn w0 : Int32} (h36 : gi s 36 = 0 ∨ gi s 36 = 1) : ∃ s', f_M_climb_137 N (some m) rn (gi s 33) w0 (some m) (rh b m s) = f_M_climb_231 N N (some m) (gi s 36) (rh b m s') ∧ RNu s s' ∧ (∀ k, k ≠ 32 → k ≠ 33 → k ≠ 34 → k ≠ 39 → k ≠ 40 → gi s' k = gi s k) ∧ gi s' 33 = w0 ∧ gi s' 34 = rn ∧ gi s' 39 = 0 ∧ gi s' 40 = 0 ∧ gi s' 32 = wnN (gi s 36) (gi s 32) (gi s 33) (gi s 1) := by
  have fr : ∀ x y, RNu s (ui (ui (ui (ui (ui (ui s 33 w0) 34 rn) 39 0) 40 0) 32 x) 32 y) ∧ ∀ k, k ≠ 32 → k ≠ 33 → k ≠ 34 → k ≠ 39 → k ≠ 40 → gi (ui (ui (ui (ui (ui (ui s 33 w0) 34 rn) 39 0) 40 0) 32 x) 32 y) k = gi s k := by
    intro x y
    have h2 : ∀ k, k ≠ 32 → k ≠ 33 → k ≠ 34 → k ≠ 39 → k ≠ 40 → gi (ui (ui (ui (ui (ui (ui s 33 w0) 34 rn) 39 0) 40 0) 32 x) 32 y) k = gi s k := by
      intro k a1 a2 a3 a4 a5; simp [giui, giul, giua, giub, glui, glul, glua, glub, gaui, gaul, gaua, gaub, gbui, gbul, gbua, gbub, a1, a2, a3, a4, a5]
    exact ⟨⟨fun k hk => h2 k (by omega) (by omega) (by omega) (by omega) (by omega), fun _ _ => rfl, fun _ => rfl, fun _ _ => rfl⟩, h2⟩
  have cont : ∀ x, f_M_climb_202 N (some m) x (some m) (rh b m (ui (ui (ui (ui s 33 w0) 34 rn) 39 0) 40 0)) = f_M_climb_231 N N (some m) (gi s 36) (rh b m (ui (ui (ui (ui (ui (ui s 33 w0) 34 rn) 39 0) 40 0) 32 x) 32 (if 1 ≤ x then x else 1))) := by
    intro x
    by_cases hx : 1 ≤ x
    · simp [f_M_climb_202, f_M_climb_222, stIr hb, ldIr hb, giui, giul, giua, giub, glui, glul, glua, glub, gaui, gaul, gaua, gaub, gbui, gbul, gbua, gbub, hx]
    · simp [f_M_climb_202, f_M_climb_222, stIr hb, ldIr hb, giui, giul, giua, giub, glui, glul, glua, glub, gaui, gaul, gaua, gaub, gbui, gbul, gbua, gbub, hx]
  rcases h36 with h36 | h36
  · refine ⟨_, ?_, (fr (gi s 32 - gi s 33) (if 1 ≤ gi s 32 - gi s 33 then gi s 32 - gi s 33 else 1)).1, (fr (gi s 32 - gi s 33) (if 1 ≤ gi s 32 - gi s 33 then gi s 32 - gi s 33 else 1)).2, by simp [giui, giul, giua, giub, glui, glul, glua, glub, gaui, gaul, gaua, gaub, gbui, gbul, gbua, gbub], by simp [giui, giul, giua, giub, glui, glul, glua, glub, gaui, gaul, gaua, gaub, gbui, gbul, gbua, gbub], by simp [giui, giul, giua, giub, glui, glul, glua, glub, gaui, gaul, gaua, gaub, gbui, gbul, gbua, gbub], by simp [giui, giul, giua, giub, glui, glul, glua, glub, gaui, gaul, gaua, gaub, gbui, gbul, gbua, gbub], ?_⟩
    · rw [← cont]
      simp [f_M_climb_137, stIr hb, ldIr hb, giui, giul, giua, giub, glui, glul, glua, glub, gaui, gaul, gaua, gaub, gbui, gbul, gbua, gbub, h36]
    · simp [giui, giul, giua, giub, glui, glul, glua, glub, gaui, gaul, gaua, gaub, gbui, gbul, gbua, gbub, wnN, h36]
  · by_cases hle : gi s 32 + gi s 33 ≤ gi s 1 - 1
    · refine ⟨_, ?_, (fr (gi s 32 + gi s 33) (if 1 ≤ gi s 32 + gi s 33 then gi s 32 + gi s 33 else 1)).1, (fr (gi s 32 + gi s 33) (if 1 ≤ gi s 32 + gi s 33 then gi s 32 + gi s 33 else 1)).2, by simp [giui, giul, giua, giub, glui, glul, glua, glub, gaui, gaul, gaua, gaub, gbui, gbul, gbua, gbub], by simp [giui, giul, giua, giub, glui, glul, glua, glub, gaui, gaul, gaua, gaub, gbui, gbul, gbua, gbub], by simp [giui, giul, giua, giub, glui, glul, glua, glub, gaui, gaul, gaua, gaub, gbui, gbul, gbua, gbub], by simp [giui, giul, giua, giub, glui, glul, glua, glub, gaui, gaul, gaua, gaub, gbui, gbul, gbua, gbub], ?_⟩
      · rw [← cont]
        simp [f_M_climb_137, stIr hb, ldIr hb, giui, giul, giua, giub, glui, glul, glua, glub, gaui, gaul, gaua, gaub, gbui, gbul, gbua, gbub, h36, hle]
      · simp [giui, giul, giua, giub, glui, glul, glua, glub, gaui, gaul, gaua, gaub, gbui, gbul, gbua, gbub, wnN, h36, hle]
    · refine ⟨_, ?_, (fr (gi s 1 - 1) (if 1 ≤ gi s 1 - 1 then gi s 1 - 1 else 1)).1, (fr (gi s 1 - 1) (if 1 ≤ gi s 1 - 1 then gi s 1 - 1 else 1)).2, by simp [giui, giul, giua, giub, glui, glul, glua, glub, gaui, gaul, gaua, gaub, gbui, gbul, gbua, gbub], by simp [giui, giul, giua, giub, glui, glul, glua, glub, gaui, gaul, gaua, gaub, gbui, gbul, gbua, gbub], by simp [giui, giul, giua, giub, glui, glul, glua, glub, gaui, gaul, gaua, gaub, gbui, gbul, gbua, gbub], by simp [giui, giul, giua, giub, glui, glul, glua, glub, gaui, gaul, gaua, gaub, gbui, gbul, gbua, gbub], ?_⟩
      · rw [← cont]
        simp [f_M_climb_137, stIr hb, ldIr hb, giui, giul, giua, giub, glui, glul, glua, glub, gaui, gaul, gaua, gaub, gbui, gbul, gbua, gbub, h36, hle]
      · simp [giui, giul, giua, giub, glui, glul, glua, glub, gaui, gaul, gaua, gaub, gbui, gbul, gbua, gbub, wnN, h36, hle]
theorem climb_66 (hb : hp_C b m = some 11) {rn : Int32} (h36 : gi s 36 = 0 ∨ gi s 36 = 1) (hab : (if gi s 34 ≤ rn then rn - gi s 34 else gi s 34 - rn) = iabs_ (rn - gi s 34)) : ∃ s', f_M_climb_66 N (some m) rn (rh b m s) = f_M_climb_231 N N (some m) (gi s 36) (rh b m s') ∧ RNu s s' ∧ (∀ k, k ≠ 32 → k ≠ 33 → k ≠ 34 → k ≠ 39 → k ≠ 40 → gi s' k = gi s k) ∧ gi s' 33 = stN (gi s 34) rn (gi s 33) (imax_ 1 (gi s 1 / 16)) ∧ gi s' 34 = rn ∧ gi s' 39 = 0 ∧ gi s' 40 = 0 ∧ gi s' 32 = wnN (gi s 36) (gi s 32) (gi s 33) (gi s 1) := by
  obtain ⟨s', f1, r⟩ := climb_137 (N := N) (b := b) (m := m) (s := s) hb (rn := rn) (w0 := stN (gi s 34) rn (gi s 33) (imax_ 1 (gi s 1 / 16))) h36
  refine ⟨s', ?_, r⟩
  rw [← f1]
  have e94 : f_M_climb_94 N (some m) rn (gi s 33) (iabs_ (rn - gi s 34)) (rh b m s) = f_M_climb_137 N (some m) rn (gi s 33) (stN (gi s 34) rn (gi s 33) (imax_ 1 (gi s 1 / 16))) (some m) (rh b m s) := by
    by_cases hd : iabs_ (rn - gi s 34) < 50
    · by_cases h1 : 1 ≤ gi s 33 * 63 / 64
      · simp [f_M_climb_94, hd, ldIr hb, stN, imax1, h1]
      · simp [f_M_climb_94, hd, ldIr hb, stN, imax1, h1]
    · by_cases h1 : 1 ≤ gi s 1 / 16
      · simp [f_M_climb_94, hd, ldIr hb, stN, imax1, h1, isOr hb, f_M_firstStep, pb]
      · simp [f_M_climb_94, hd, ldIr hb, stN, imax1, h1, isOr hb, f_M_firstStep, pb]
  rw [← e94, ← hab]
  by_cases hle : gi s 34 ≤ rn
  · simp [f_M_climb_66, ldIr hb, hle]
  · simp [f_M_climb_66, ldIr hb, hle]
end CC
