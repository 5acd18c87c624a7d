/-! WAYS: load, refresh, finish, fail; put, remove -/
section WW
variable {b σ σ' : Hp} {m c n Q z N B B' t o1 : Nat} {o : Nat × (Nat → Int32)} {es : Nat → Nat} {W : Nat → Int32} {s s' : RS} {L L' : Nat → List Nat} {wt : Nat → Int32}
theorem Sim.wayN (h : Sim c o es n Q z W L B t σ s) (cC : ∀ a, a < hp_N σ → hp_C σ' a = hp_C σ a) (cI : ∀ x j a, a < hp_N σ → hp_I σ' x j a = hp_I σ x j a) (cL : ∀ x j a, a < hp_N σ → hp_L σ' x j a = hp_L σ x j a) (cR : ∀ x j a, a < hp_N σ → hp_R σ' x j a = hp_R σ x j a) (cA : ∀ a, a ≠ c + 2 → hp_A σ' a = hp_A σ a) (cN : hp_N σ ≤ hp_N σ') (ri : ∀ k, gi s' k = gi s k) (rg : ∀ k, k ≠ 7 → k ≠ 8 → k ≠ 9 → ∀ j, ga s' k j = ga s k j) (rl : ∀ k, gl s' k = gl s k) (rb : ∀ k j, gb s' k j = gb s k j) (hWY : WY σ' c es n s') : Sim c o es n Q z W L B t σ' s' := by
  obtain ⟨⟨h1, h2, h2b, h3, h4, h5, h6, h7, h8, h9, h10, h11⟩, hI, hR, hN0, hN1, hT⟩ := h
  obtain ⟨n1, n2⟩ := h9
  have ag : ∀ k, k ≠ 7 → k ≠ 8 → k ≠ 9 → ga s' k = ga s k := fun k q1 q2 q3 => funext (rg k q1 q2 q3)
  have a6 := ag 6 (by decide) (by decide) (by decide); have a11 := ag 11 (by decide) (by decide) (by decide); have a12 := ag 12 (by decide) (by decide) (by decide); have a13 := ag 13 (by decide) (by decide) (by decide); have a15 := ag 15 (by decide) (by decide) (by decide); have a16 := ag 16 (by decide) (by decide) (by decide); have a20 := ag 20 (by decide) (by decide) (by decide); have a23 := ag 23 (by decide) (by decide) (by decide); have a24 := ag 24 (by decide) (by decide) (by decide); have a25 := ag 25 (by decide) (by decide) (by decide); have a26 := ag 26 (by decide) (by decide) (by decide); have a30 := ag 30 (by decide) (by decide) (by decide); have a31 := ag 31 (by decide) (by decide) (by decide); have a46 := ag 46 (by decide) (by decide) (by decide); have a47 := ag 47 (by decide) (by decide) (by decide); have a48 := ag 48 (by decide) (by decide) (by decide)
  obtain ⟨e1, e2, e3⟩ := ends_congr (s := s) (s' := s') (rg 14 (by decide) (by decide) (by decide)) (ri 2) (ri 3) (rb 17) (rb 18)
  refine ⟨⟨?_, ?_, ?_, ?_, ?_, hWY, ?_, ?_, ?_, ?_, ?_, ?_⟩, ?_, ?_, ?_, ?_, ?_⟩
  · unfold SK at *
    rw [cC c (by omega), cR 0 0 c (by omega), cR 0 1 c (by omega), cR 0 2 c (by omega), cR 0 3 c (by omega), cR 0 4 c (by omega), cR 0 5 c (by omega), cR 0 6 c (by omega), cR 0 7 c (by omega), cR 0 8 c (by omega), cR 0 9 c (by omega), cC (c + 3) (by omega), cC (c + 5) (by omega), cC (c + 7) (by omega), cC (c + 10) (by omega), cC (c + 14) (by omega), cC (c + 21) (by omega), cR 6 0 (c + 3) (by omega), cR 6 0 (c + 5) (by omega), cR 9 0 (c + 7) (by omega), cR 9 1 (c + 7) (by omega), cR 5 0 (c + 10) (by omega), cR 5 1 (c + 10) (by omega), cR 5 2 (c + 10) (by omega)]
    exact h1
  · unfold SCa at *
    rw [cI 0 10 c (by omega), cI 0 11 c (by omega), cI 0 12 c (by omega), cI 0 13 c (by omega), cI 0 14 c (by omega), cI 4 0 _ (by omega), cI 4 1 _ (by omega), cL 4 2 _ (by omega), cI 8 0 _ (by omega), cI 8 4 _ (by omega), cI 6 2 (c + 3) (by omega), cI 6 2 (c + 5) (by omega)]
    simp only [ri, rl]; exact h2
  · unfold SCb at *
    rw [cI 1 0 _ (by omega), cI 1 1 _ (by omega), cI 1 2 _ (by omega), cI 1 3 _ (by omega), cI 1 4 _ (by omega), cI 1 5 _ (by omega), cI 1 6 _ (by omega), cI 1 7 _ (by omega), cI 1 8 _ (by omega)]
    simp only [ri]; exact h2b
  · intro d hd
    have ha := n2 d hd
    rw [cI 3 0 _ ha, cI 3 1 _ ha, cI 3 3 _ ha, cI 3 7 _ ha, cI 3 6 _ ha, cL 3 5 _ ha, cL 3 4 _ ha, a11, a12, a16, a20, e1, e2, e3]
    exact h3 d hd
  · unfold MP mpo at *; rw [cA _ (by omega), a6]; exact h4
  · unfold LGt at *
    rw [cI 5 3 _ (by omega), cA _ (by omega), cA _ (by omega), cA _ (by omega), a46, a47, a48, ri]
    exact h6
  · unfold CTT at *
    rw [cC _ (by omega), cR _ _ _ (by omega), cI _ _ _ (by omega), cI 2 2 _ (by omega), cA _ (by omega), a30, a31, ri, ri]
    exact h7
  · unfold Out at *; rw [cA _ (by omega)]; exact h8
  · exact ⟨by omega, fun d hd => by have := n2 d hd; omega⟩
  · unfold WFa at *; simp only [a6, a11, a13, a20, e1]; exact h10
  · unfold WFb at *; simp only [a6, a12, ri, rl]; exact h11
  · rw [a13]
    obtain ⟨g1, g2, g3, g4, g5, g6, g7⟩ := hI
    refine ⟨?_, fun r hr => ⟨?_, ?_⟩, g3, g4, fun d hd => ?_, fun d hd hno' => ?_, g7⟩
    · obtain ⟨r0, r1, r2, r3⟩ := g1
      exact ⟨by rw [cC _ (by omega)]; exact r0, by rw [cR _ _ _ (by omega)]; exact r1, by rw [cR _ _ _ (by omega)]; exact r2, by rw [cR _ _ _ (by omega)]; exact r3⟩
    · have hra : rA c r < hp_N σ := by unfold rA; have := hr.2; omega
      obtain ⟨c1, c2, c3, c4, c5, c6⟩ := (g2 r hr).1
      refine ⟨by rw [cC _ hra]; exact c1, by rw [cR _ _ _ hra]; exact c2, by rw [cR _ _ _ hra]; exact c3, by rw [cI _ _ _ hra]; exact c4, seg_congr (fun a ha => ?_) c5, c6⟩
      obtain ⟨d, hd, rfl⟩ := List.mem_map.mp ha
      have := n2 d (g4 r hr d hd)
      exact ⟨cC _ this, cR _ _ _ this, cR _ _ _ this, cR _ _ _ this⟩
    · have hra : rA c r < hp_N σ := by unfold rA; have := hr.2; omega
      rw [cI _ _ _ hra]; exact (g2 r hr).2
    · have := n2 d hd
      rw [cC _ this, cI _ _ _ this]; exact g5 d hd
    · have := n2 d hd
      rw [cR _ _ _ this]; exact g6 d hd hno'
  · unfold RR at *; simp only [ri, a15, rl, rb]; exact hR
  · unfold Nt at *; rw [cI _ _ _ (by omega), cA _ (by omega), a23, a24]; exact hN0
  · unfold Nt at *; rw [cI _ _ _ (by omega), cA _ (by omega), a23, a24]; exact hN1
  · refine hT.to (cI _ _ _ (by omega)) (cA _ (by omega)) (cA _ (by omega)) (ri 27) a25 a26 (fun _ q => q) (fun e _ _ q => ?_)
    rw [a20] at q; exact q
/-- a way cleared -/
theorem Sim.unway (h : Sim c o es n Q z W L B t σ s) {g : Nat → Option Nat} (gA : hp_A σ (c + 2) = some (4, 1000, .inr (.inr (.inr (.inr g))))) (gM : ∀ k, k < 1000 → WYk σ es n s k (g k)) {k : Nat} : Sim c o es n Q z W L B t (up_A σ (c + 2) (4, 1000, .inr (.inr (.inr (.inr (va_up g k none)))))) (ua s 7 k 0) := by
  refine h.wayN (fun _ _ => rfl) (fun _ _ _ _ => rfl) (fun _ _ _ _ => rfl) (fun _ _ _ _ => rfl) (fun a ha => by rw [hA_A, if_neg ha]) (Nat.le_refl _) (fun _ => rfl) (fun x h7 _ _ j => by rw [gaua, if_neg (fun q => h7 q.1)]) (fun _ => rfl) (fun _ _ => rfl) ⟨va_up g k none, by rw [hA_A, if_pos rfl], fun j hj => ?_⟩
  by_cases hjk : j = k
  · subst hjk; exact Or.inl ⟨by simp [giui, giul, giua, giub, glui, glul, glua, glub, gaui, gaul, gaua, gaub, gbui, gbul, gbua, gbub], by simp [va_up]⟩
  · have e7 : ga (ua s 7 k 0) 7 j = ga s 7 j := by simp [giui, giul, giua, giub, glui, glul, glua, glub, gaui, gaul, gaua, gaub, gbui, gbul, gbua, gbub, hjk]
    have := gM j hj
    unfold WYk at *
    have e8 : ga (ua s 7 k 0) 8 j = ga s 8 j := by simp [giui, giul, giua, giub, glui, glul, glua, glub, gaui, gaul, gaua, gaub, gbui, gbul, gbua, gbub]
    have e9 : ga (ua s 7 k 0) 9 j = ga s 9 j := by simp [giui, giul, giua, giub, glui, glul, glua, glub, gaui, gaul, gaua, gaub, gbui, gbul, gbua, gbub]
    rw [e7, e8, e9]
    unfold va_up
    rw [if_neg hjk]; exact this
/-- a new way -/
def wayH (σ : Hp) (c k : Nat) (g : Nat → Option Nat) (x : Option Nat) (y : Int32) : Hp := up_A (up_I (up_R (nw_O σ 10) 10 0 (hp_N σ) x) 10 1 (hp_N σ) y) (c + 2) (4, 1000, .inr (.inr (.inr (.inr (va_up g k (some (hp_N σ)))))))
theorem way_run {k : Nat} (hk : k < 1000) (hc : c + 21 < hp_N σ) {g : Nat → Option Nat} (gA : hp_A σ (c + 2) = some (4, 1000, .inr (.inr (.inr (.inr g))))) {x : Option Nat} {y : Int32} : ∃ σ1, f_Wa_init (some (hp_N σ)) x y (nw_O σ 10) = some σ1 ∧ as_R σ1 4 10 (some (c + 2)) (nI k) (some (hp_N σ)) = some (wayH σ c k g x y) := by
  have hik : ix_ (nI k) 1000 = some k := ixN hk (by decide)
  have hC : hp_C (nw_O σ 10) (hp_N σ) = some 10 := by rw [nC, if_pos rfl]
  refine ⟨up_I (up_R (nw_O σ 10) 10 0 (hp_N σ) x) 10 1 (hp_N σ) y, ?_, ?_⟩
  · simp [f_Wa_init, stR hC, stI (σ := up_R (nw_O σ 10) 10 0 (hp_N σ) x) (a := hp_N σ) hC]
  · rw [asR (f := g) (by rw [hA_I, hA_R, nA]; exact gA) hik (by rw [hC_I, hC_R]; exact hC)]
    rfl
theorem Sim.way (h : Sim c o es n Q z W L B t σ s) {g : Nat → Option Nat} (gA : hp_A σ (c + 2) = some (4, 1000, .inr (.inr (.inr (.inr g))))) (gM : ∀ k, k < 1000 → WYk σ es n s k (g k)) {k : Nat} {x : Option Nat} {y : Int32} (ri : ∀ k, gi s' k = gi s k) (rg : ∀ k, k ≠ 7 → k ≠ 8 → k ≠ 9 → ∀ j, ga s' k j = ga s k j) (rk : ∀ i j, j ≠ k → ga s' i j = ga s i j) (rl : ∀ k, gl s' k = gl s k) (rb : ∀ k j, gb s' k j = gb s k j) (hW : (ga s' 7 k = 1 ∧ x = none) ∨ (ga s' 7 k = 2 ∧ ∃ e, e < n ∧ ga s' 8 k = nI e ∧ x = some (es e) ∧ y = ga s' 9 k)) : Sim c o es n Q z W L B t (wayH σ c k g x y) s' := by
  have wC : ∀ a, hp_C (wayH σ c k g x y) a = if a = hp_N σ then some 10 else hp_C σ a := fun a => by
    unfold wayH; rw [hC_A, hC_I, hC_R, nC]
  have wI : ∀ i j a, a ≠ hp_N σ → hp_I (wayH σ c k g x y) i j a = hp_I σ i j a := fun i j a ha => by
    unfold wayH; rw [hI_A, hI_I, if_neg (fun q => ha q.2.2), hI_R, nI', if_neg ha]
  have wR : ∀ i j a, a ≠ hp_N σ → hp_R (wayH σ c k g x y) i j a = hp_R σ i j a := fun i j a ha => by
    unfold wayH; rw [hR_A, hR_I, hR_R, if_neg (fun q => ha q.2.2), nR, if_neg ha]
  have wL : ∀ i j a, a ≠ hp_N σ → hp_L (wayH σ c k g x y) i j a = hp_L σ i j a := fun i j a ha => by
    unfold wayH; rw [hL_A, hL_I, hL_R, nL, if_neg ha]
  have wA : ∀ a, a ≠ c + 2 → hp_A (wayH σ c k g x y) a = hp_A σ a := fun a ha => by
    unfold wayH; rw [hA_A, if_neg ha, hA_I, hA_R, nA]
  have wN : hp_N (wayH σ c k g x y) = hp_N σ + 1 := rfl
  have wR0 : hp_R (wayH σ c k g x y) 10 0 (hp_N σ) = x := by
    unfold wayH; rw [hR_A, hR_I, hR_R, if_pos ⟨rfl, rfl, rfl⟩]
  have wI1 : hp_I (wayH σ c k g x y) 10 1 (hp_N σ) = y := by
    unfold wayH; rw [hI_A, hI_I, if_pos ⟨rfl, rfl, rfl⟩]
  refine h.wayN (fun a ha => by rw [wC, if_neg (by omega)]) (fun i j a ha => wI i j a (by omega)) (fun i j a ha => wL i j a (by omega)) (fun i j a ha => wR i j a (by omega)) wA (by rw [wN]; omega) ri rg rl rb ⟨va_up g k (some (hp_N σ)), by unfold wayH; rw [hA_A, if_pos rfl], fun j hj => ?_⟩
  unfold va_up
  by_cases hjk : j = k
  · subst hjk
    rw [if_pos rfl]
    refine Or.inr ⟨hp_N σ, rfl, by rw [wC, if_pos rfl], by rw [wN]; omega, ?_⟩
    rcases hW with ⟨q1, q2⟩ | ⟨q1, e, q2, q3, q4, q5⟩
    · exact Or.inl ⟨q1, by rw [wR0]; exact q2⟩
    · exact Or.inr ⟨q1, e, q2, q3, by rw [wR0]; exact q4, by rw [wI1]; exact q5⟩
  · rw [if_neg hjk]
    rcases gM j hj with q | ⟨a, q1, q2, q3, q4⟩
    · exact Or.inl ⟨by rw [rk _ _ hjk]; exact q.1, q.2⟩
    · refine Or.inr ⟨a, q1, by rw [wC, if_neg (by omega)]; exact q2, by rw [wN]; omega, ?_⟩
      rw [rk _ _ hjk, rk _ _ hjk, rk _ _ hjk, wR _ _ _ (by omega), wI _ _ _ (by omega)]
      exact q4
theorem val_cases (v w : Int32) : (∀ τ, f_W_isValue v w τ = some (0, τ)) ∧ (v < 0 ∨ (¬ v < 0 ∧ w < 1) ∨ (¬ v < 0 ∧ ¬ w < 1 ∧ 1000 < w)) ∨ (∀ τ, f_W_isValue v w τ = some (1, τ)) ∧ ¬ v < 0 ∧ ¬ w < 1 ∧ ¬ 1000 < w ∧ ∃ w0, 1 ≤ w0 ∧ w0 ≤ 1000 ∧ w = nI w0 := by
  by_cases h1 : v < 0
  · exact Or.inl ⟨fun τ => by simp [f_W_isValue, h1], Or.inl h1⟩
  · by_cases h2 : w < 1
    · exact Or.inl ⟨fun τ => by simp [f_W_isValue, h1, h2], Or.inr (Or.inl ⟨h1, h2⟩)⟩
    · by_cases h3 : 1000 < w
      · exact Or.inl ⟨fun τ => by simp [f_W_isValue, h1, h2, h3], Or.inr (Or.inr ⟨h1, h2, h3⟩)⟩
      · refine Or.inr ⟨fun τ => by simp [f_W_isValue, h1, h2, h3], h1, h2, h3, ?_⟩
        have e0 : (0 : Int32).toInt = 0 := by decide
        have e1 : (1 : Int32).toInt = 1 := by decide
        have h0 : ¬ w < 0 := fun q => h2 (by
          rw [Int32.lt_iff_toInt_lt] at q ⊢
          omega)
        obtain ⟨j, hj, rfl⟩ := nI_of2 (M := 1000) (n := 1000) (by decide) h0 (Int32.not_lt.mp h3)
        refine ⟨j, ?_, hj, rfl⟩
        have := Int32.not_lt.mp h2
        exact (nI_leI (a := 1) (by decide) (by omega)).mp this
theorem Sim.gi0 (h : Sim c o es n Q z W L B t σ s) : gi s 0 = o.2 1999 := h.1.2.2.2.2.2.2.2.2.2.2.2.2.2.2.2.2.2.2.2.2
theorem hV9 {V : Nat → Int32} {x : Int32} (hV : ∀ j, V (2000 + j) ≠ 1) : ∀ j, va_up V 1999 x (2000 + j) ≠ 1 := by
  intro j; unfold va_up; rw [if_neg (by omega)]; exact hV j
theorem c_put (hb : hp_C b m = some 11) (hN : 10000 ≤ N) (h : SS c o1 Q σ s) (hQ : Q + 1 ≤ 599) (p v w x : Int32) : ∃ kx r σ' s', f_L_put N (some c) p v w x (some o1) σ = some (kx, σ') ∧ f_M_put N (some m) p v w x (rh b m s) = some (r, rh b m s') ∧ gi s' 0 = kx ∧ SS c o1 (Q + 1) σ' s' ∧ (kx = 0 → (r = 0 ∧ al_L σ' 1 (some o1) 0 = some 0) ∨ (¬ r = 0 ∧ al_L σ' 1 (some o1) 0 = some 1)) := by
  obtain ⟨V, es, n, z, W, L, t, ht, hn, hV, hS⟩ := h.op hQ
  have k0 := hS.1.1.1
  have bad : (∀ τ, f_W_put N (some c) p v w x τ = some (Sum.inr 0, nw_X τ)) → f_M_put N (some m) p v w x (rh b m s) = some (0, rh b m (ui s 0 1)) → ∃ kx r σ' s', f_L_put N (some c) p v w x (some o1) σ = some (kx, σ') ∧ f_M_put N (some m) p v w x (rh b m s) = some (r, rh b m s') ∧ gi s' 0 = kx ∧ SS c o1 (Q + 1) σ' s' ∧ (kx = 0 → (r = 0 ∧ al_L σ' 1 (some o1) 0 = some 0) ∨ (¬ r = 0 ∧ al_L σ' 1 (some o1) 0 = some 1)) := by
    intro f1 f2
    refine ⟨1, 0, nw_X σ, ui s 0 1, ?_, f2, by simp [giui, giul, giua, giub, glui, glul, glua, glub, gaui, gaul, gaua, gaub, gbui, gbul, gbua, gbub], SS.cl (hS.thr.nx) (by omega) ht, fun q => absurd q (by decide)⟩
    simp [f_L_put, isO k0, f1, pbx]
  have m29 : ∀ τ0, τ0 = rh b m s → f_M_put_29 N (some m) p v w x (some m) τ0 = some (0, rh b m (ui s 0 1)) := by
    intro τ0 hq; subst hq
    simp [f_M_put_29, f_M_put_34, stIr hb, ldIr hb, giui, giul, giua, giub, glui, glul, glua, glub, gaui, gaul, gaua, gaub, gbui, gbul, gbua, gbub]
  rcases key_cases p with hp | ⟨k, hk, rfl, hp⟩
  · exact bad (fun τ => by simp [f_W_put, f_W_put_20, (hp τ).1, pb]) (by simp [f_M_put, (hp _).2, pb, m29])
  · rcases val_cases v w with ⟨hv, hc⟩ | ⟨hv, h1, h2, h3w, w0, hw1, hw2, rfl⟩
    · refine bad (fun τ => by simp [f_W_put, f_W_put_20, (hp τ).1, pb, hv]) ?_
      rcases hc with h1 | ⟨h1, h2⟩ | ⟨h1, h2, h3⟩
      · simp [f_M_put, (hp _).2, pb, m29, h1]
      · simp [f_M_put, (hp _).2, pb, m29, h1, h2]
      · simp [f_M_put, (hp _).2, pb, m29, h1, h2, h3]
    · by_cases hx : 0 ≤ x
      · obtain ⟨σ', s', r, V', es', n', L', W', t', hr, f1, f2, ht', hv9, hS'⟩ := ((hS.thr (x := 0)).le (B' := 100000 * (600 - (Q + 1)) + 60000) (by omega)).store hb hN ht hk hn (hV9 hV) (v := v) (x := x) hw1 hw2
        have g0 : gi s' 0 = 0 := by
          rw [hS'.gi0]
          show V' 1999 = 0
          rw [hv9]; simp [va_up]
        have n10 : ¬ (1 : Int32) = 0 := by decide
        rcases hr with rfl | rfl
        · obtain ⟨σ2, f3, h3, -, f4⟩ := hS'.out (x := 0)
          refine ⟨0, 0, σ2, s', ?_, ?_, g0, SS.cl h3 (by omega) ht', fun _ => Or.inl ⟨rfl, f4⟩⟩
          · have f3' : as_L σ' 1 (some o1) 0 0 = some σ2 := f3
            simp [f_L_put, f_L_put_20, isO k0, f_W_put, (hp σ).1, pb, hv, hx, f1, pbx, f3']
          · simp [f_M_put, f_M_put_34, (hp _).2, pb, h1, h2, h3w, hx, stIr hb, ldIr hb, giui, giul, giua, giub, glui, glul, glua, glub, gaui, gaul, gaua, gaub, gbui, gbul, gbua, gbub, isOr hb, f2]
        · obtain ⟨σ2, f3, h3, -, f4⟩ := hS'.out (x := 1)
          refine ⟨0, 1, σ2, s', ?_, ?_, g0, SS.cl h3 (by omega) ht', fun _ => Or.inr ⟨n10, f4⟩⟩
          · have f3' : as_L σ' 1 (some o1) 0 1 = some σ2 := f3
            simp [f_L_put, f_L_put_20, isO k0, f_W_put, (hp σ).1, pb, hv, hx, f1, pbx, f3']
          · simp [f_M_put, f_M_put_34, (hp _).2, pb, h1, h2, h3w, hx, stIr hb, ldIr hb, giui, giul, giua, giub, glui, glul, glua, glub, gaui, gaul, gaua, gaub, gbui, gbul, gbua, gbub, isOr hb, f2]
      · refine bad (fun τ => by simp [f_W_put, f_W_put_20, (hp τ).1, pb, hv, hx]) ?_
        simp [f_M_put, (hp _).2, pb, m29, h1, h2, h3w, hx]
theorem c_load (hb : hp_C b m = some 11) (h : SS c o1 Q σ s) (hQ : Q + 1 ≤ 599) (p : Int32) : ∃ kx r σ' s', f_L_load (some c) p (some o1) σ = some (kx, σ') ∧ f_M_load (some m) p (rh b m s) = some (r, rh b m s') ∧ gi s' 0 = kx ∧ SS c o1 (Q + 1) σ' s' ∧ (kx = 0 → al_L σ' 1 (some o1) 0 = some r.toInt64) := by
  rcases key_cases p with hp | ⟨k, hk, rfl, hp⟩
  · obtain ⟨V, es, n, z, W, L, t, ht, hn, hV, hS⟩ := h.op hQ
    refine ⟨1, 0, nw_X σ, ui s 0 1, ?_, ?_, by simp [giui, giul, giua, giub, glui, glul, glua, glub, gaui, gaul, gaua, gaub, gbui, gbul, gbua, gbub], SS.cl hS.thr.nx (by omega) ht, fun q => absurd q (by decide)⟩
    · simp [f_L_load, isO hS.1.1.1, f_W_load, (hp σ).1, pb, pbx]
    · simp [f_M_load, f_M_load_13, (hp _).2, pb, stIr hb, ldIr hb, giui, giul, giua, giub, glui, glul, glua, glub, gaui, gaul, gaua, gaub, gbui, gbul, gbua, gbub]
  · obtain ⟨V, es, n, z, W, L, t, ht, hS⟩ := h
    have k0 := hS.1.1.1
    obtain ⟨r, σ1, s1, f1, f2, h1⟩ := (hS.thr (x := 0)).ask hb hQ hk
    have g0 : gi s1 0 = 0 := by
      rw [h1.gi0]; simp [va_up]
    have hik : ix_ (nI k) 1000 = some k := ixN hk (by decide)
    by_cases hr : r = -1
    · subst hr
      obtain ⟨g, gA, gM⟩ := id h1.1.2.2.2.2.2.1
      obtain ⟨j0, j1, j2, -⟩ := id h1.1.1
      have hcN := h1.1.2.2.2.2.2.2.2.2.2.1.1
      rcases gM k hk with ⟨q1, q2⟩ | ⟨a, q1, q2, q3, q4⟩
      · obtain ⟨σ2, f3, f4⟩ := way_run (σ := σ1) (c := c) hk hcN gA (x := none) (y := 0)
        have h2 : Sim c (o1, va_up V 1999 0) es n (Q + 1) z W L (100000 * (600 - Q)) t (wayH σ1 c k g none 0) (ua (ui s1 0 0) 7 k 1) := by
          refine h1.way gA gM (fun i => ?_) (fun i h7 _ _ j => by rw [gaua, if_neg (fun q => h7 q.1)]; rfl) (fun i j hj => by rw [gaua, if_neg (fun q => hj q.2)]; rfl) (fun _ => rfl) (fun _ _ => rfl) (Or.inl ⟨by simp [giui, giul, giua, giub, glui, glul, glua, glub, gaui, gaul, gaua, gaub, gbui, gbul, gbua, gbub], rfl⟩)
          rw [giua, giui]
          by_cases hi : i = 0
          · rw [if_pos hi, hi, g0]
          · rw [if_neg hi]
        obtain ⟨σ3, f5, h3, -, f6⟩ := h2.out (x := -2)
        refine ⟨0, -2, σ3, ua (ui s1 0 0) 7 k 1, ?_, ?_, by simp [giui, giul, giua, giub, glui, glul, glua, glub, gaui, gaul, gaua, gaub, gbui, gbul, gbua, gbub], SS.cl h3 (by omega) ht, fun _ => by rw [show Int32.toInt64 (-2) = (-2 : Int64) by decide]; exact f6⟩
        · have f5' : as_L (wayH σ1 c k g none 0) 1 (some o1) 0 (-2) = some σ3 := f5
          simp [f_L_load, isO k0, f_W_load, (hp σ).1, pb, f1, ldR j0, j2, alR gA hik, q2, f3, f4, pbx, f5']
        · simp [f_M_load, f_M_load_13, f_M_load_53, (hp _).2, pb, stIr hb, ldIr hb, giui, giul, giua, giub, glui, glul, glua, glub, gaui, gaul, gaua, gaub, gbui, gbul, gbua, gbub, isOr hb, f2, ldRr hb, al7, as7, hik, q1]
      · have hw : ¬ ga s1 7 k ≤ 0 := by
          rcases q4 with q4 | q4
          · rw [q4.1]; decide
          · rw [q4.1]; decide
        refine ⟨2, 0, nw_X σ1, ui s1 0 2, ?_, ?_, by simp [giui, giul, giua, giub, glui, glul, glua, glub, gaui, gaul, gaua, gaub, gbui, gbul, gbua, gbub], SS.cl h1.thr.nx (by omega) ht, fun q => absurd q (by decide)⟩
        · simp [f_L_load, isO k0, f_W_load, (hp σ).1, pb, f1, ldR j0, j2, alR gA hik, q1, pbx]
        · simp [f_M_load, f_M_load_13, f_M_load_53, (hp _).2, pb, stIr hb, ldIr hb, giui, giul, giua, giub, glui, glul, glua, glub, gaui, gaul, gaua, gaub, gbui, gbul, gbua, gbub, isOr hb, f2, ldRr hb, al7, hik, hw]
    · obtain ⟨σ3, f5, h3, -, f6⟩ := h1.out (x := Int32.toInt64 r)
      refine ⟨0, r, σ3, s1, ?_, ?_, g0, SS.cl h3 (by omega) ht, fun _ => f6⟩
      · have f5' : as_L σ1 1 (some o1) 0 (Int32.toInt64 r) = some σ3 := f5
        simp [f_L_load, isO k0, f_W_load, (hp σ).1, pb, f1, hr, pbx, f5']
      · simp [f_M_load, f_M_load_13, (hp _).2, pb, stIr hb, ldIr hb, giui, giul, giua, giub, glui, glul, glua, glub, gaui, gaul, gaua, gaub, gbui, gbul, gbua, gbub, isOr hb, f2, hr]
theorem c_refresh (hb : hp_C b m = some 11) (h : SS c o1 Q σ s) (hQ : Q + 1 ≤ 599) (p : Int32) : ∃ r σ' s', f_W_refresh (some c) p σ = some (r, σ') ∧ f_M_refresh (some m) p (rh b m s) = some (r, rh b m s') ∧ SS c o1 (Q + 1) σ' s' := by
  obtain ⟨V, es, n, z, W, L, t, ht, hn, hV, hS0⟩ := h.op hQ
  have hS := hS0.thr (x := 0)
  rcases key_cases p with hp | ⟨k, hk, rfl, hp⟩
  · exact ⟨0, σ, ui s 0 0, by simp [f_W_refresh, f_W_refresh_17, (hp σ).1, pb], by simp [f_M_refresh, stIr hb, (hp _).2, pb], SS.cl hS (by omega) ht⟩
  · obtain ⟨hR, hI, hRR, -⟩ := id hS
    have h600 := hRR.2.1
    have hWF := hR.2.2.2.2.2.2.2.2.2.2.1
    obtain ⟨k0, k1, k2, -⟩ := id hR.1
    obtain ⟨f, fA, fM⟩ := id hR.2.2.2.2.1
    obtain ⟨g, gA, gM⟩ := id hR.2.2.2.2.2.1
    have hcN := hR.2.2.2.2.2.2.2.2.2.1.1
    have hik : ix_ (nI k) 1000 = some k := ixN hk (by decide)
    have hs := seen_run (b := b) (m := m) (s := ui s 0 0) hb hWF h600 hk
    cases hm : mpo (ui s 0 0) k with
    | none =>
      have hse : seen (ui s 0 0) k = none := by simp [seen, hm]
      rw [hse] at hs
      have fk : f k = none := by rw [fM k hk, hm]; rfl
      refine ⟨0, σ, ui s 0 0, ?_, ?_, SS.cl hS (by omega) ht⟩
      · simp [f_W_refresh, f_W_refresh_17, (hp σ).1, pb, ldR k0, k1, alR fA hik, fk]
      · simp [f_M_refresh, stIr hb, (hp _).2, pb, isOr hb, hs, oI]
    | some e =>
      obtain ⟨hen, h6, h11, h20⟩ := hWF.mpo h600 hk hm
      have hC := hI.c3 hen
      have hiS := hR.isSeen hen hC
      have fk : f k = some (es e) := by rw [fM k hk, hm]; rfl
      have hm1 := nI_m1 (e := e) (by omega)
      by_cases hov : en (ui s 0 0) e ≤ gl (ui s 0 0) 5
      · rw [if_pos hov] at hiS
        have hse : seen (ui s 0 0) k = none := by simp [seen, hm, hov]
        rw [hse] at hs
        refine ⟨0, σ, ui s 0 0, ?_, ?_, SS.cl hS (by omega) ht⟩
        · simp [f_W_refresh, f_W_refresh_17, (hp σ).1, pb, ldR k0, k1, alR fA hik, fk, isO k0, hiS]
        · simp [f_M_refresh, stIr hb, (hp _).2, pb, isOr hb, hs, oI]
      · rw [if_neg hov] at hiS
        have hse : seen (ui s 0 0) k = some e := by simp [seen, hm, hov]
        rw [hse] at hs
        rcases gM k hk with ⟨q1, q2⟩ | ⟨a, q1, q2, q3, q4⟩
        · have hed : hp_I σ 3 3 (es e) = ga (ui s 0 0) 16 e := (hR.2.2.2.1 e hen).2.2.1
          obtain ⟨σ2, f3, f4⟩ := way_run (σ := σ) (c := c) hk hcN gA (x := some (es e)) (y := ga (ui s 0 0) 16 e)
          have hie : ix_ (nI e) 1100 = some e := ixN (by omega) (by decide)
          have h2 : Sim c (o1, va_up V 1999 0) es n (Q + 1) z W L (100000 * (600 - (Q + 1)) + 100000) t (wayH σ c k g (some (es e)) (ga (ui s 0 0) 16 e)) (ua (ua (ua (ui s 0 0) 7 k 2) 8 k (nI e)) 9 k (ga (ui s 0 0) 16 e)) := by
            refine hS.way gA gM (fun _ => rfl) (fun i h7 h8 h9 j => by simp [giui, giul, giua, giub, glui, glul, glua, glub, gaui, gaul, gaua, gaub, gbui, gbul, gbua, gbub, h7, h8, h9]) (fun i j hj => by simp [giui, giul, giua, giub, glui, glul, glua, glub, gaui, gaul, gaua, gaub, gbui, gbul, gbua, gbub, hj]) (fun _ => rfl) (fun _ _ => rfl) (Or.inr ⟨by simp [giui, giul, giua, giub, glui, glul, glua, glub, gaui, gaul, gaua, gaub, gbui, gbul, gbua, gbub], e, hen, by simp [giui, giul, giua, giub, glui, glul, glua, glub, gaui, gaul, gaua, gaub, gbui, gbul, gbua, gbub], rfl, by simp [giui, giul, giua, giub, glui, glul, glua, glub, gaui, gaul, gaua, gaub, gbui, gbul, gbua, gbub]⟩)
          refine ⟨1, _, _, ?_, ?_, SS.cl h2 (by omega) ht⟩
          · have heN : es e ≠ hp_N σ := by have := hR.2.2.2.2.2.2.2.2.2.1.2 e hen; omega
            have ed : ld_I (nw_O σ 10) (some (es e)) 3 3 = some (ga (ui s 0 0) 16 e) := by
              rw [ldI (by rw [nC, if_neg heN]; exact hC), nI', if_neg heN, hed]
            simp [f_W_refresh, f_W_refresh_17, (hp σ).1, pb, ldR k0, k1, alR fA hik, fk, isO k0, hiS, k2, alR gA hik, q2, ed, f3, f4]
          · have q1' : ga s 7 k = 0 := q1
            have h6' : ga s 6 k = nI e := h6
            simp [f_M_refresh, stIr hb, (hp _).2, pb, isOr hb, hs, oI, hm1, ldRr hb, al7, as7, al6, as8, as9, al16, hik, hie, giui, giul, giua, giub, glui, glul, glua, glub, gaui, gaul, gaua, gaub, gbui, gbul, gbua, gbub, q1', h6']
        · have hw : ¬ ga s 7 k ≤ 0 := by
            have q4' : (ga s 7 k = 1 ∧ _) ∨ (ga s 7 k = 2 ∧ _) := q4
            rcases q4' with q4 | q4
            · rw [q4.1]; decide
            · rw [q4.1]; decide
          refine ⟨0, σ, ui s 0 0, ?_, ?_, SS.cl hS (by omega) ht⟩
          · simp [f_W_refresh, f_W_refresh_17, (hp σ).1, pb, ldR k0, k1, alR fA hik, fk, isO k0, hiS, k2, alR gA hik, q1]
          · simp [f_M_refresh, stIr hb, (hp _).2, pb, isOr hb, hs, oI, hm1, ldRr hb, al7, hik, giui, giul, giua, giub, glui, glul, glua, glub, gaui, gaul, gaua, gaub, gbui, gbul, gbua, gbub, hw]
theorem Sim.ints (h : Sim c o es n Q z W L B t σ s) : hp_I σ 0 11 c = gi s 41 ∧ hp_I σ 0 12 c = gi s 42 := ⟨h.1.2.1.2.1, h.1.2.1.2.2.1⟩
theorem Sim.fin (h : Sim c o es n Q z W L B t σ s) : Sim c o es n Q z W L B t (up_I σ 0 11 c (gi s 41 + 1)) (ui s 41 (gi s 41 + 1)) := by
  refine h.mw ⟨rfl, fun _ => rfl, fun _ _ _ => rfl, fun _ _ _ => rfl, fun x k a hx => by rw [hI_I, if_neg (fun q => hx q.1)], fun _ => rfl⟩ ⟨fun k _ h1 _ _ _ => by rw [giui, if_neg h1], fun _ _ _ => rfl, fun _ => rfl, fun _ _ => rfl⟩ ?_
  obtain ⟨q1, q2, q3, q4, q5, q6, q7, q8, q9, q10, q11⟩ := h.1.2.1
  exact ⟨by rw [hI_I, if_neg (by omega)]; exact q1, by rw [hI_I, if_pos ⟨rfl, rfl, rfl⟩]; rfl, by rw [hI_I, if_neg (by omega)]; exact q3, by rw [hI_I, if_neg (by omega)]; exact q4, by rw [hI_I, if_neg (by omega)]; exact q5, q6, q7, q8, q9, q10, q11⟩
theorem Sim.fai (h : Sim c o es n Q z W L B t σ s) : Sim c o es n Q z W L B t (up_I σ 0 12 c (gi s 42 + 1)) (ui s 42 (gi s 42 + 1)) := by
  refine h.mw ⟨rfl, fun _ => rfl, fun _ _ _ => rfl, fun _ _ _ => rfl, fun x k a hx => by rw [hI_I, if_neg (fun q => hx q.1)], fun _ => rfl⟩ ⟨fun k _ _ h1 _ _ => by rw [giui, if_neg h1], fun _ _ _ => rfl, fun _ => rfl, fun _ _ => rfl⟩ ?_
  obtain ⟨q1, q2, q3, q4, q5, q6, q7, q8, q9, q10, q11⟩ := h.1.2.1
  exact ⟨by rw [hI_I, if_neg (by omega)]; exact q1, by rw [hI_I, if_neg (by omega)]; exact q2, by rw [hI_I, if_pos ⟨rfl, rfl, rfl⟩]; rfl, by rw [hI_I, if_neg (by omega)]; exact q4, by rw [hI_I, if_neg (by omega)]; exact q5, q6, q7, q8, q9, q10, q11⟩
theorem c_fail (hb : hp_C b m = some 11) (h : SS c o1 Q σ s) (hQ : Q + 1 ≤ 599) (p : Int32) : ∃ kx σ' s', f_L_fail (some c) p σ = some (kx, σ') ∧ f_M_fail (some m) p (rh b m s) = some (rh b m s') ∧ gi s' 0 = kx ∧ SS c o1 (Q + 1) σ' s' := by
  obtain ⟨V, es, n, z, W, L, t, ht, hn, hV, hS⟩ := h.op hQ
  have k0 := hS.1.1.1
  have k2 := hS.1.1.2.2.1
  have bad : (∀ τ, τ = σ → f_W_fail (some c) p τ = some (Sum.inr 1, nw_X τ)) → f_M_fail (some m) p (rh b m s) = some (rh b m (ui s 0 1)) → ∃ kx σ' s', f_L_fail (some c) p σ = some (kx, σ') ∧ f_M_fail (some m) p (rh b m s) = some (rh b m s') ∧ gi s' 0 = kx ∧ SS c o1 (Q + 1) σ' s' := by
    intro f1 f2
    refine ⟨1, nw_X σ, ui s 0 1, ?_, f2, by simp [giui, giul, giua, giub, glui, glul, glua, glub, gaui, gaul, gaua, gaub, gbui, gbul, gbua, gbub], SS.cl hS.thr.nx (by omega) ht⟩
    simp [f_L_fail, isO k0, f1 σ rfl, pbx]
  rcases key_cases p with hp | ⟨k, hk, rfl, hp⟩
  · exact bad (fun τ _ => by simp [f_W_fail, f_W_fail_16, (hp τ).1, pb]) (by simp [f_M_fail, f_M_fail_17, f_M_fail_22, (hp _).2, pb, stIr hb, ldIr hb, giui, giul, giua, giub, glui, glul, glua, glub, gaui, gaul, gaua, gaub, gbui, gbul, gbua, gbub])
  · obtain ⟨g, gA, gM⟩ := id hS.1.2.2.2.2.2.1
    have hik : ix_ (nI k) 1000 = some k := ixN hk (by decide)
    rcases gM k hk with ⟨q1, q2⟩ | ⟨a, q1, q2, q3, q4⟩
    · refine bad (fun τ hτ => by subst hτ; simp [f_W_fail, f_W_fail_16, (hp τ).1, pb, ldR k0, k2, alR gA hik, q2]) (by simp [f_M_fail, f_M_fail_17, f_M_fail_22, (hp _).2, pb, stIr hb, ldIr hb, giui, giul, giua, giub, glui, glul, glua, glub, gaui, gaul, gaua, gaub, gbui, gbul, gbua, gbub, ldRr hb, al7, hik, q1])
    · have hw : ¬ ga s 7 k = 0 := by
        rcases q4 with q4 | q4
        · rw [q4.1]; decide
        · rw [q4.1]; decide
      have h2 := ((hS.thr (x := 0)).unway gA gM (k := k)).fai
      have i12 := hS.ints.2
      refine ⟨0, _, _, ?_, ?_, ?_, SS.cl h2 (by omega) ht⟩
      · simp [f_L_fail, isO k0, f_W_fail, (hp σ).1, pb, ldR k0, k2, alR gA hik, q1, asR0 gA hik, ldI, stI, hC_A, hI_A, k0, i12, pbx, giui, giul, giua, giub, glui, glul, glua, glub, gaui, gaul, gaua, gaub, gbui, gbul, gbua, gbub]
      · simp [f_M_fail, f_M_fail_22, (hp _).2, pb, stIr hb, ldIr hb, giui, giul, giua, giub, glui, glul, glua, glub, gaui, gaul, gaua, gaub, gbui, gbul, gbua, gbub, ldRr hb, al7, as7, hik, hw]
      · simp [giui, giul, giua, giub, glui, glul, glua, glub, gaui, gaul, gaua, gaub, gbui, gbul, gbua, gbub]
end WW
