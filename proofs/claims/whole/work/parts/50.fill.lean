/-! A TASK NOTED; AN ENTRY FILLED -/
section AT
variable {b σ σ' σ0 : Hp} {m c n n0 Q z N B B' t : Nat} {o : Nat × (Nat → Int32)} {es es0 : Nat → Nat} {W : Nat → Int32} {s s' s0 : RS} {L L' : Nat → List Nat}
theorem Rest.up9 {k a : Nat} {x : Int32} (h : Rest c o es n Q z W σ s) : Rest c o es n Q z W (up_I σ 9 k a x) s := h
theorem Rest.rtask {j : Nat} {x y u : Int32} (h : Rest c o es n Q z W σ s) : Rest c o es n Q z W σ (ui (ua (ua s 25 j x) 26 j y) 27 u) := h
theorem addTask (hb : hp_C b m = some 11) (hN : 10000 ≤ N) (hR : Rest c o es n Q z W σ s) (hI : RI σ c es n (ga s 13) L) (hRR : RR s n L (B + 30000)) (hN0 : Nt c es n σ s 0 0) (hN1 : Nt c es n σ s 1 0) (hT : Tk c es0 n0 L σ0 s0 t 0) (hn0 : n0 ≤ n) (hes : ∀ x, x < n0 → es x = es0 x) (ht : t < 8) (e9 : hp_I σ 9 2 (c + 7) = hp_I σ0 9 2 (c + 7)) (e8a : hp_A σ (c + 8) = hp_A σ0 (c + 8)) (e9a : hp_A σ (c + 9) = hp_A σ0 (c + 9)) (g27 : gi s 27 = gi s0 27) (a25 : ga s 25 = ga s0 25) (a26 : ga s 26 = ga s0 26) {e kd : Nat} (h20 : ∀ x, inL L x → ga s 20 x = 0 → (ga s0 20 x = 0 ∧ x < n0) ∨ (x = e ∧ kd = 2)) (hk : kd ≤ 2) (he : e < n) (hnew : kd = 0 → n0 ≤ e ∧ ∀ r, in3 r → e ∉ L r) : ∃ x σ1 σ' s' L' W' t', f_Ta_addUntilFull (some (c + 7)) (nI kd) (some (es e)) σ = some (x, σ1) ∧ SK σ1 c ∧ ((x = 0 ∧ σ' = σ1) ∨ (x = 1 ∧ f_W_tidy N (some c) σ1 = some σ')) ∧ f_M_task N (some m) (nI kd) (nI e) (rh b m s) = some (rh b m s') ∧ t' < 8 ∧ Sim c o es n Q z W' L' B t' σ' s' := by
  obtain ⟨h1, h2, h3, h4, h5, q, kk, f, h6, h7, k1, k2, k3⟩ := hT
  rw [← g27] at h3
  rw [← e9] at h4
  rw [← e9a, ← a25] at h5
  rw [← e8a] at h6
  rw [← a25, ← a26] at h7
  have h600 := hRR.2.1
  have hie : ix_ (nI t) 8 = some t := ixN ht (by decide)
  have hCe := hI.c3 he
  obtain ⟨s0', s1, s2, s3, s4, s5, s6, s7, s8, s9, s10, s11, s12, s13, s14, s15, s16, s17, s18, s19, s20, -⟩ := id hR.1
  have hlt : ¬ (8 : Int32) ≤ nI t := nI_ge (b := 8) ht (by decide)
  have ga25 : ga (ui (ua (ua s 25 t (nI kd)) 26 t (nI e)) 27 (nI t + 1)) 25 = va_up (ga s 25) t (nI kd) := funext fun j => by simp [giui, giul, giua, giub, glui, glul, glua, glub, gaui, gaul, gaua, gaub, gbui, gbul, gbua, gbub, va_up]
  have ga26 : ga (ui (ua (ua s 25 t (nI kd)) 26 t (nI e)) 27 (nI t + 1)) 26 = va_up (ga s 26) t (nI e) := funext fun j => by simp [giui, giul, giua, giub, glui, glul, glua, glub, gaui, gaul, gaua, gaub, gbui, gbul, gbua, gbub, va_up]
  -- the state with the task
  have hS : Sim c o es n Q z W L (B + 30000) (t + 1) (up_I (up_A (up_A σ (c + 8) (3, 8, .inr (.inr (.inr (.inr (va_up f t (some (es e)))))))) (c + 9) (0, 8, .inl (va_up (ga s 25) t (nI kd)))) 9 2 (c + 7) (nI t + 1)) (ui (ua (ua s 25 t (nI kd)) 26 t (nI e)) 27 (nI t + 1)) := by
    refine ⟨(((hR.upA (by omega)).upA (by omega)).up9).rtask, ((hI.upA).upA).upI (by decide) (Or.inl (by decide)), hRR, ?_, ?_, ?_⟩
    · have := (hN0.upA (a := c + 8) (x := (3, 8, .inr (.inr (.inr (.inr (va_up f t (some (es e)))))))) (by omega)).upA (a := c + 9) (x := (0, 8, .inl (va_up (ga s 25) t (nI kd)))) (by omega)
      unfold Nt at *; exact this
    · have := (hN1.upA (a := c + 8) (x := (3, 8, .inr (.inr (.inr (.inr (va_up f t (some (es e)))))))) (by omega)).upA (a := c + 9) (x := (0, 8, .inl (va_up (ga s 25) t (nI kd)))) (by omega)
      unfold Nt at *; exact this
    · refine ⟨by omega, by omega, by simp [giui, giul, giua, giub, glui, glul, glua, glub, gaui, gaul, gaua, gaub, gbui, gbul, gbua, gbub, nI_1], by simp [hI_I, nI_1], ?_, fun j => if j = t then e else q j, fun j => if j = t then kd else kk j, va_up f t (some (es e)), ?_, fun j j1 j2 => ?_, fun j j1 j2 j3 r hr hm => ?_, fun j l j1 j2 l1 l2 j3 l3 jl => ?_, fun x r hx hr hm h0 => ?_⟩
      · rw [ga25, hA_I, hA_A, if_pos rfl]
      · rw [hA_I, hA_A, if_neg (by omega), hA_A, if_pos rfl]
      · rw [ga25, ga26]
        by_cases hj : j = t
        · subst hj; simp [va_up]; exact ⟨he, hk⟩
        · obtain ⟨y1, y2, y3, y4, y5⟩ := h7 j (by omega) (by omega)
          simp only [va_up, hj, if_false]
          exact ⟨by omega, y2, by rw [y3, hes _ y1], y4, y5⟩
      · by_cases hj : j = t
        · simp only [hj, if_true] at j3 hm
          exact (hnew j3).2 r hr hm
        · simp only [hj, if_false] at j3 hm
          exact k1 j (by omega) (by omega) j3 r hr hm
      · by_cases hj : j = t
        · by_cases hl : l = t
          · omega
          · simp only [hj, hl, if_true, if_false] at j3 l3 jl
            have := (h7 l (by omega) (by omega)).1
            have := (hnew j3).1
            omega
        · by_cases hl : l = t
          · simp only [hj, hl, if_true, if_false] at j3 l3 jl
            have := (h7 j (by omega) (by omega)).1
            have := (hnew l3).1
            omega
          · simp only [hj, hl, if_false] at j3 l3 jl
            exact k2 j l (by omega) (by omega) (by omega) (by omega) j3 l3 jl
      · have h0' : ga s 20 x = 0 := by simpa [giui, giul, giua, giub, glui, glul, glua, glub, gaui, gaul, gaua, gaub, gbui, gbul, gbua, gbub] using h0
        rcases h20 x ⟨r, hr, hm⟩ h0' with ⟨z1, z2⟩ | ⟨z1, z2⟩
        · obtain ⟨j, y1, y2, y3, y4⟩ := k3 x r z2 hr hm z1
          refine ⟨j, y1, by omega, ?_, ?_⟩
          · show (if j = t then kd else kk j) = 2
            rw [if_neg (by omega)]; exact y3
          · show (if j = t then e else q j) = x
            rw [if_neg (by omega)]; exact y4
        · exact ⟨t, by omega, by omega, by simp [z2], by simp [z1]⟩
  have fC : ∀ x, (if (nI t + 1) < 8 then (0 : Int32) else 1) = x → f_Ta_addUntilFull (some (c + 7)) (nI kd) (some (es e)) σ = some (x, up_I (up_A (up_A σ (c + 8) (3, 8, .inr (.inr (.inr (.inr (va_up f t (some (es e)))))))) (c + 9) (0, 8, .inl (va_up (ga s 25) t (nI kd)))) 9 2 (c + 7) (nI t + 1)) := by
    intro x hx
    have d1 : as_I (up_A σ (c + 8) (3, 8, .inr (.inr (.inr (.inr (va_up f t (some (es e)))))))) 0 (some (c + 9)) (nI t) (nI kd) = some (up_A (up_A σ (c + 8) (3, 8, .inr (.inr (.inr (.inr (va_up f t (some (es e)))))))) (c + 9) (0, 8, .inl (va_up (ga s 25) t (nI kd)))) := asI (by rw [hA_A, if_neg (by omega)]; exact h5) hie
    by_cases h8 : nI t + 1 < 8
    · rw [if_pos h8] at hx; subst hx
      simp [f_Ta_addUntilFull, f_Ta_addUntilFull_39, ldI, ldR, stI, s13, h4, hlt, s19, s20, asR h6 hie hCe, hC_A, hR_A, hI_A, d1, hC_I, hI_I, h8]
    · rw [if_neg h8] at hx; subst hx
      simp [f_Ta_addUntilFull, f_Ta_addUntilFull_39, ldI, ldR, stI, s13, h4, hlt, s19, s20, asR h6 hie hCe, hC_A, hR_A, hI_A, d1, hC_I, hI_I, h8]
  by_cases h8 : t + 1 = 8
  · have h8' : ¬ nI t + 1 < 8 := by rw [nI_1, h8]; decide
    have h8'' : nI t + 1 = 8 := by rw [nI_1, h8]; rfl
    obtain ⟨σ2, s2, L2, W2, f1, f2, r⟩ := hS.tidy hb hN
    refine ⟨1, _, σ2, s2, L2, W2, 0, fC 1 (by rw [if_neg h8']), hS.1.1, Or.inr ⟨rfl, f1⟩, ?_, by omega, r⟩
    have e8 : nI t + 1 = 8 := h8''
    simp only [f_M_task, ldRr hb, ldIr hb, h3, as25, hie, as26, stIr hb, Option.bind_some, Option.map_some, giui, giul, giua, giub, glui, glul, glua, glub, gaui, gaul, gaua, gaub, gbui, gbul, gbua, gbub, if_false, if_true, Nat.reduceEqDiff, e8]
    rw [e8] at f2
    simp [isOr hb, f2]
  · have h8' : nI t + 1 < 8 := by rw [nI_1]; exact nI_lt (b := 8) (by omega) (by decide)
    have h8'' : ¬ nI t + 1 = 8 := by
      rw [nI_1]; intro q
      exact h8 ((nI_eq (b := 8) (by omega) (by decide)).mp q)
    refine ⟨0, _, _, _, L, W, t + 1, fC 0 (by rw [if_pos h8']), hS.1.1, Or.inl ⟨rfl, rfl⟩, ?_, by omega, hS.le (by omega)⟩
    simp [f_M_task, ldRr hb, ldIr hb, h3, as25, hie, as26, stIr hb, giui, giul, giua, giub, glui, glul, glua, glub, gaui, gaul, gaua, gaub, gbui, gbul, gbua, gbub, h8'']
end AT
