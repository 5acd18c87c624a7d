/-! A NEW ENTRY; STORE and LAY -/
theorem nC {σ : Hp} {ci a : Nat} : hp_C (nw_O σ ci) a = if a = hp_N σ then some ci else hp_C σ a := rfl
theorem nI' {σ : Hp} {ci x k a : Nat} : hp_I (nw_O σ ci) x k a = if a = hp_N σ then 0 else hp_I σ x k a := rfl
theorem nL {σ : Hp} {ci x k a : Nat} : hp_L (nw_O σ ci) x k a = if a = hp_N σ then 0 else hp_L σ x k a := rfl
theorem nR {σ : Hp} {ci x k a : Nat} : hp_R (nw_O σ ci) x k a = if a = hp_N σ then none else hp_R σ x k a := rfl
theorem nA {σ : Hp} {ci a : Nat} : hp_A (nw_O σ ci) a = hp_A σ a := rfl
theorem nN {σ : Hp} {ci : Nat} : hp_N (nw_O σ ci) = hp_N σ + 1 := rfl
section NW
variable {b σ σ' : Hp} {m c n Q z N B B' t : Nat} {o : Nat × (Nat → Int32)} {es : Nat → Nat} {W : Nat → Int32} {s s' : RS} {L L' : Nat → List Nat} {wt : Nat → Int32}
theorem Nt.mf {d i e : Nat} {v w x : Int32} (h : Nt c es n σ s d i) (f : MF σ σ') : Nt c es n σ' (layS s e v w x) d i := by
  unfold Nt at *
  have I6 : ∀ k a, hp_I σ' 6 k a = hp_I σ 6 k a := fun k a => f.2.2.2.2.1 6 k a (by decide) (by decide)
  simp only [I6, f.2.2.2.2.2, lay_ga (k := 24) (by decide), lay_ga (k := 23) (by decide)]
  exact h
theorem RR.lay {e : Nat} {v w x : Int32} (h : RR s n L B) : RR (layS s e v w x) n L B := by
  unfold RR at *
  simp only [lay_ga (k := 15) (by decide), lay_gb (k := 19) (by decide)]
  exact h
/-- a value replaced -/
theorem Sim.replace (hb : hp_C b m = some 11) (hN : 10000 ≤ N) (h : Sim c o es n Q z W L (B + 30000) t σ s) (ht : t < 8) {k e : Nat} (hk : k < 1000) (hm : mpo s k = some e) (hov : ¬ en s e ≤ gl s 5) {v x : Int32} {w0 : Nat} (hw1 : 1 ≤ w0) (hw2 : w0 ≤ 1000) : ∃ σ' s' V' L' W' t', f_W_store N (some c) (nI k) v (nI w0) x σ = some (1, σ') ∧ f_M_lay N (some m) (nI k) v (nI w0) x (rh b m s) = some (1, rh b m s') ∧ t' < 8 ∧ V' 1999 = o.2 1999 ∧ Sim c (o.1, V') es n Q z W' L' B t' σ' s' := by
  obtain ⟨hR, hI, hRR, hN0, hN1, hT⟩ := id h
  have h600 := hRR.2.1
  have hWF := hR.2.2.2.2.2.2.2.2.2.2.1
  obtain ⟨hen, h6, h11, h20⟩ := hWF.mpo h600 hk hm
  have hC := hI.c3 hen
  obtain ⟨σ1, s1, f1, f2, hR1, ml, rl, r6, r20⟩ := hR.hear (b := b) (m := m) hb hen h600 hC 1
  have hI1 : RI σ1 c es n (ga s1 13) L := by
    rw [rl.2.1 13 (by decide) (by decide) (by decide) (by decide) (by decide)]; exact hI.ml ml
  obtain ⟨σ2, f3, hR2, hI2, mf⟩ := fill_ok (v := v) (x := x) (hR1.x e) hI1 (fun _ _ _ => rfl) hen hw1 hw2
  obtain ⟨x1, σ3, σ', s', L', W', t', f4, sk3, f5, f6, ht', hS⟩ := addTask (N := N) (B := B) (b := b) (m := m) (σ0 := σ) (s0 := s) (e := e) (kd := 1) hb hN hR2 hI2 ((hRR.ml rl).lay) ((hN0.ml (by decide) ml rl).mf mf) ((hN1.ml (by decide) ml rl).mf mf) hT (Nat.le_refl _) (fun _ _ => rfl) ht
    (by rw [mf.2.2.2.2.1 9 _ _ (by decide) (by decide), ml.2.2.2.2.1 9 _ _ (by decide) (Or.inl (by decide))])
    (by rw [mf.2.2.2.2.2, ml.2.2.2.2.2 _ (by omega) (by omega) (by omega) (by omega)])
    (by rw [mf.2.2.2.2.2, ml.2.2.2.2.2 _ (by omega) (by omega) (by omega) (by omega)])
    (rl.1 27 (by decide))
    (by rw [funext (lay_ga (s := s1) (e := e) (v := v) (w := nI w0) (x := x) (k := 25) (by decide))]; exact rl.2.1 25 (by decide) (by decide) (by decide) (by decide) (by decide))
    (by rw [funext (lay_ga (s := s1) (e := e) (v := v) (w := nI w0) (x := x) (k := 26) (by decide))]; exact rl.2.1 26 (by decide) (by decide) (by decide) (by decide) (by decide))
    (fun y hy h0 => by
      rw [lay_ga (by decide), r20] at h0
      obtain ⟨r, hr, hm'⟩ := hy
      exact Or.inl ⟨h0, hI.lt hr hm'⟩)
    (by decide) hen (fun q => by cases q)
  have hseen : seen s k = some e := by simp [seen, hm, hov]
  obtain ⟨k0, k1, k2, k3, k4, k5, k6, k7, k8, k9, k10, k11, k12, k13, k14, -⟩ := id hR.1
  obtain ⟨f, fA, fM⟩ := id hR.2.2.2.2.1
  have hik : ix_ (nI k) 1000 = some k := ixN hk (by decide)
  refine ⟨σ', s', va_up o.2 e v, L', W', t', ?_, ?_, ht', by unfold va_up; rw [if_neg (by omega)], hS⟩
  · have hiS := hR.isSeen hen hC
    rw [if_neg hov] at hiS
    have fk : f k = some (es e) := by rw [fM k hk, hm]; rfl
    have n10 : ¬ (1 : Int32) = 0 := by decide
    have kk0 : hp_C σ1 c = some 0 := hR1.1.1
    have kk2 := hR2.1
    rw [show nI 1 = 1 from rfl] at f4
    rcases f5 with ⟨rfl, rfl⟩ | ⟨rfl, f5⟩
    · simp [f_W_store, ldR k0, k1, alR fA hik, fk, isO k0, hiS, pb, k6, isO k14, f1, isO kk0, f3, ldR kk2.1, kk2.2.2.2.2.2.1, isO kk2.2.2.2.2.2.2.2.2.2.2.2.2.2.1, f4]
    · simp [f_W_store, ldR k0, k1, alR fA hik, fk, isO k0, hiS, pb, k6, isO k14, f1, isO kk0, f3, ldR kk2.1, kk2.2.2.2.2.2.1, isO kk2.2.2.2.2.2.2.2.2.2.2.2.2.2.1, f4, isO sk3.1, f5]
  · have hs := seen_run (b := b) (m := m) hb hWF h600 hk
    rw [hseen] at hs
    have hm1 := nI_m1 (e := e) (by omega)
    have n10 : ¬ (1 : Int32) = 0 := by decide
    rw [show nI 1 = 1 from rfl] at f6
    simp only [f_M_lay, isOr hb, Option.bind_some, hs, pb, oI, hm1, if_false, f_M_lay_18, n10, f2]
    rw [lay_run hb (by omega), if_neg n10]
    simp [f_M_lay_188, isOr hb, f6]
/-- where there is no entry yet, or none any more -/
def newS (s : RS) (n k : Nat) : RS := ua (ua (ua (ua (ua (ui s 10 (nI n + 1)) 11 n (nI k)) 20 n 1) 15 n 0) 16 n 0) 6 k (nI n)
def esN (es : Nat → Nat) (n a : Nat) : Nat → Nat := fun d => if d = n then a else es d
theorem esN_o {a d : Nat} (h : d < n) : esN es n a d = es d := by unfold esN; rw [if_neg (by omega)]
theorem esN_n {a : Nat} : esN es n a n = a := by unfold esN; rw [if_pos rfl]
def newH (σ : Hp) (c k : Nat) (f : Nat → Option Nat) : Hp := up_A (up_I (nw_O σ 3) 3 0 (hp_N σ) (nI k)) (c + 1) (3, 1000, .inr (.inr (.inr (.inr (va_up f k (some (hp_N σ)))))))
theorem nH_C {k a : Nat} {f : Nat → Option Nat} : hp_C (newH σ c k f) a = if a = hp_N σ then some 3 else hp_C σ a := rfl
theorem nH_N {k : Nat} {f : Nat → Option Nat} : hp_N (newH σ c k f) = hp_N σ + 1 := rfl
theorem nH_R {k x j a : Nat} {f : Nat → Option Nat} : hp_R (newH σ c k f) x j a = if a = hp_N σ then none else hp_R σ x j a := rfl
theorem nH_L {k x j a : Nat} {f : Nat → Option Nat} : hp_L (newH σ c k f) x j a = if a = hp_N σ then 0 else hp_L σ x j a := rfl
theorem nH_I {k x j a : Nat} {f : Nat → Option Nat} (h : a ≠ hp_N σ) : hp_I (newH σ c k f) x j a = hp_I σ x j a := by
  unfold newH
  rw [hI_A, hI_I, if_neg (fun q => h q.2.2), nI', if_neg h]
theorem nH_In {k x j : Nat} {f : Nat → Option Nat} (h : x ≠ 3 ∨ j ≠ 0) : hp_I (newH σ c k f) x j (hp_N σ) = 0 := by
  unfold newH
  rw [hI_A, hI_I, if_neg (by omega), nI', if_pos rfl]
theorem nH_I0 {k : Nat} {f : Nat → Option Nat} : hp_I (newH σ c k f) 3 0 (hp_N σ) = nI k := by
  unfold newH
  rw [hI_A, hI_I, if_pos ⟨rfl, rfl, rfl⟩]
theorem nH_A {k a : Nat} {f : Nat → Option Nat} (h : a ≠ c + 1) : hp_A (newH σ c k f) a = hp_A σ a := by
  unfold newH
  rw [hA_A, if_neg h, hA_I, nA]
theorem nH_A1 {k : Nat} {f : Nat → Option Nat} : hp_A (newH σ c k f) (c + 1) = some (3, 1000, .inr (.inr (.inr (.inr (va_up f k (some (hp_N σ))))))) := by
  unfold newH
  rw [hA_A, if_pos rfl]
theorem nS_i {k j : Nat} (h : j ≠ 10) : gi (newS s n k) j = gi s j := by simp [newS, giui, giul, giua, giub, glui, glul, glua, glub, gaui, gaul, gaua, gaub, gbui, gbul, gbua, gbub, h]
theorem nS_10 {k : Nat} : gi (newS s n k) 10 = nI n + 1 := by simp [newS, giui, giul, giua, giub, glui, glul, glua, glub, gaui, gaul, gaua, gaub, gbui, gbul, gbua, gbub]
theorem nS_a {k j e : Nat} (h : j ≠ 6) (he : e ≠ n) : ga (newS s n k) j e = ga s j e := by simp [newS, giui, giul, giua, giub, glui, glul, glua, glub, gaui, gaul, gaua, gaub, gbui, gbul, gbua, gbub, h, he]
theorem nS_k {k j e : Nat} (h : j ≠ 6 ∧ j ≠ 11 ∧ j ≠ 20 ∧ j ≠ 15 ∧ j ≠ 16) : ga (newS s n k) j e = ga s j e := by simp [newS, giui, giul, giua, giub, glui, glul, glua, glub, gaui, gaul, gaua, gaub, gbui, gbul, gbua, gbub, h.1, h.2.1, h.2.2.1, h.2.2.2.1, h.2.2.2.2]
theorem nS_6 {k e : Nat} : ga (newS s n k) 6 e = if e = k then nI n else ga s 6 e := by simp [newS, giui, giul, giua, giub, glui, glul, glua, glub, gaui, gaul, gaua, gaub, gbui, gbul, gbua, gbub]
theorem nS_ends {k : Nat} : (∀ e, fe (newS s n k) e = fe s e) ∧ (∀ e, lbt (newS s n k) e = lbt s e) ∧ ∀ e, en (newS s n k) e = en s e := ends_congr (fun e => nS_k (by decide)) (nS_i (by decide)) (nS_i (by decide)) (fun _ => rfl) (fun _ => rfl)
theorem Sim.newX (h : Sim c o es n Q z W L B t σ s) {k : Nat} (hk : k < 1000) (hno : ga s 6 k = -1) (hnQ : n + 1 ≤ Q) (hV : ∀ j, o.2 (2000 + j) ≠ 1) {f : Nat → Option Nat} (fA : hp_A σ (c + 1) = some (3, 1000, .inr (.inr (.inr (.inr f))))) (fM : ∀ j, j < 1000 → f j = (mpo s j).map es) : RestX c o (esN es n (hp_N σ)) (n + 1) Q z W (newH σ c k f) (newS s n k) n ∧ RI (newH σ c k f) c (esN es n (hp_N σ)) (n + 1) (va_up (ga s 13) n 0) L ∧ RR (newS s n k) (n + 1) L B ∧ Nt c (esN es n (hp_N σ)) (n + 1) (newH σ c k f) (newS s n k) 0 0 ∧ Nt c (esN es n (hp_N σ)) (n + 1) (newH σ c k f) (newS s n k) 1 0 := by
  obtain ⟨⟨h1, h2, h2b, h3, h4, h5, h6, h7, h8, h9, h10, h11⟩, hI, hR, hN0, hN1, hT⟩ := h
  obtain ⟨n1, n2⟩ := h9
  obtain ⟨w1, w2, w3, w4, w5, w6⟩ := h10
  obtain ⟨u1, u2, u3, u4, u5, u6, u7, u8, u9, u10⟩ := h11
  have h600 := hR.2.1
  have cC : ∀ a, a < hp_N σ → hp_C (newH σ c k f) a = hp_C σ a := fun a ha => by rw [nH_C, if_neg (by omega)]
  have cI : ∀ x j a, a < hp_N σ → hp_I (newH σ c k f) x j a = hp_I σ x j a := fun x j a ha => nH_I (by omega)
  have cL : ∀ x j a, a < hp_N σ → hp_L (newH σ c k f) x j a = hp_L σ x j a := fun x j a ha => by rw [nH_L, if_neg (by omega)]
  have cR : ∀ x j a, a < hp_N σ → hp_R (newH σ c k f) x j a = hp_R σ x j a := fun x j a ha => by rw [nH_R, if_neg (by omega)]
  obtain ⟨ef, el, ee⟩ := nS_ends (s := s) (n := n) (k := k)
  refine ⟨⟨?_, ?_, ?_, ?_, ?_, ?_, ?_, ?_, ?_, ?_, ?_, ?_⟩, ?_, ?_, ?_, ?_⟩
  · unfold SK at *
    rw [cC c (by omega), cR 0 0 c (by omega), cR 0 1 c (by omega), cR 0 2 c (by omega), cR 0 3 c (by omega), cR 0 4 c (by omega), cR 0 5 c (by omega), cR 0 6 c (by omega), cR 0 7 c (by omega), cR 0 8 c (by omega), cR 0 9 c (by omega), cC (c + 3) (by omega), cC (c + 5) (by omega), cC (c + 7) (by omega), cC (c + 10) (by omega), cC (c + 14) (by omega), cC (c + 21) (by omega), cR 6 0 (c + 3) (by omega), cR 6 0 (c + 5) (by omega), cR 9 0 (c + 7) (by omega), cR 9 1 (c + 7) (by omega), cR 5 0 (c + 10) (by omega), cR 5 1 (c + 10) (by omega), cR 5 2 (c + 10) (by omega)]
    exact h1
  · unfold SCa at *
    rw [cI 0 10 c (by omega), cI 0 11 c (by omega), cI 0 12 c (by omega), cI 0 13 c (by omega), cI 0 14 c (by omega), cI 4 0 _ (by omega), cI 4 1 _ (by omega), cL 4 2 _ (by omega), cI 8 0 _ (by omega), cI 8 4 _ (by omega), cI 6 2 (c + 3) (by omega), cI 6 2 (c + 5) (by omega)]
    exact h2
  · unfold SCb at *
    rw [cI 1 0 _ (by omega), cI 1 1 _ (by omega), cI 1 2 _ (by omega), cI 1 3 _ (by omega), cI 1 4 _ (by omega), cI 1 5 _ (by omega), cI 1 6 _ (by omega), cI 1 7 _ (by omega), cI 1 8 _ (by omega)]
    exact h2b
  · intro d hd
    by_cases hdn : d = n
    · subst hdn
      rw [esN_n]
      refine ⟨?_, ?_, ?_, fun q => absurd rfl q⟩
      · rw [nH_I0]; simp [newS, giui, giul, giua, giub, glui, glul, glua, glub, gaui, gaul, gaua, gaub, gbui, gbul, gbua, gbub]
      · rw [nH_In (Or.inr (by decide))]; simp [newS, giui, giul, giua, giub, glui, glul, glua, glub, gaui, gaul, gaua, gaub, gbui, gbul, gbua, gbub]
      · rw [nH_In (Or.inr (by decide))]
        have : ga (newS s d k) 20 d = 1 := by simp [newS, giui, giul, giua, giub, glui, glul, glua, glub, gaui, gaul, gaua, gaub, gbui, gbul, gbua, gbub]
        rw [this]; decide
    · have hd' : d < n := by omega
      have ha := n2 d hd'
      rw [esN_o hd', cI 3 0 _ ha, cI 3 3 _ ha, cI 3 7 _ ha, cI 3 1 _ ha, cI 3 6 _ ha, cL 3 5 _ ha, cL 3 4 _ ha, nS_a (by decide) hdn, nS_a (by decide) hdn, nS_a (by decide) hdn, nS_a (by decide) hdn, ef, el, ee]
      obtain ⟨a1, a2, a3, a4, a5, a6, a7⟩ := h3 d hd'
      exact ⟨a1, a3, a4, fun _ => ⟨a2, a5, a6, a7⟩⟩
  · refine ⟨va_up f k (some (hp_N σ)), nH_A1, fun j hj => ?_⟩
    unfold va_up
    by_cases hjk : j = k
    · subst hjk
      have : mpo (newS s n j) j = some n := mpo_some (by rw [nS_6, if_pos rfl]) (by omega)
      rw [if_pos rfl, this]
      simp [esN_n]
    · rw [if_neg hjk, fM j hj]
      have : mpo (newS s n k) j = mpo s j := by unfold mpo; rw [nS_6, if_neg hjk]
      rw [this]
      cases hmj : mpo s j with
      | none => rfl
      | some d =>
        have hdn : d < n := by
          rcases w3 j hj with q | ⟨d', q1, q2, -⟩
          · rw [mpo_none q] at hmj; cases hmj
          · rw [mpo_some q2 (by omega)] at hmj; cases hmj; exact q1
        simp [esN_o hdn]
  · obtain ⟨g, gA, gM⟩ := h5
    refine ⟨g, by rw [nH_A (by omega)]; exact gA, fun j hj => ?_⟩
    unfold WYk at *
    rw [nS_k (by decide), nS_k (by decide), nS_k (by decide)]
    rcases gM j hj with q | ⟨a, q1, q2, q3, q4⟩
    · exact Or.inl q
    · refine Or.inr ⟨a, q1, by rw [cC a q3]; exact q2, by rw [nH_N]; omega, ?_⟩
      rw [cR 10 0 a q3, cI 10 1 a q3]
      rcases q4 with q4 | ⟨p1, e, p2, p3, p4, p5⟩
      · exact Or.inl q4
      · exact Or.inr ⟨p1, e, by omega, p3, by rw [esN_o p2]; exact p4, p5⟩
  · unfold LGt at *
    have a46 : ga (newS s n k) 46 = ga s 46 := funext fun j => nS_k (by decide)
    have a47 : ga (newS s n k) 47 = ga s 47 := funext fun j => nS_k (by decide)
    have a48 : ga (newS s n k) 48 = ga s 48 := funext fun j => nS_k (by decide)
    rw [cI 5 3 _ (by omega), nH_A (by omega), nH_A (by omega), nH_A (by omega), a46, a47, a48, nS_i (by decide)]
    exact h6
  · obtain ⟨c1, c2, c3, c4, c5, c6, c7, c8, c9⟩ := h7
    refine ⟨by rw [cC _ (by omega)]; exact c1, by rw [cR _ _ _ (by omega)]; exact c2, by rw [cI _ _ _ (by omega)]; exact c3, by rw [nS_i (by decide)]; exact c4, by rw [cI _ _ _ (by omega), nS_i (by decide)]; exact c5, by rw [nH_A (by omega)]; exact c6, fun i j hi hj => by rw [nS_k (by decide)]; exact c7 i j hi hj, c8, fun i hi => by rw [nS_k (by decide)]; exact c9 i hi⟩
  · obtain ⟨⟨g, gA⟩, gB⟩ := h8
    exact ⟨⟨g, by rw [nH_A (by omega)]; exact gA⟩, gB⟩
  · refine ⟨by rw [nH_N]; omega, fun d hd => ?_⟩
    rw [nH_N]
    by_cases hdn : d = n
    · subst hdn; rw [esN_n]; omega
    · rw [esN_o (by omega)]; have := n2 d (by omega); omega
  · have z11 : ga (newS s n k) 11 n = nI k := by simp [newS, giui, giul, giua, giub, glui, glul, glua, glub, gaui, gaul, gaua, gaub, gbui, gbul, gbua, gbub]
    have z20 : ga (newS s n k) 20 n = 1 := by simp [newS, giui, giul, giua, giub, glui, glul, glua, glub, gaui, gaul, gaua, gaub, gbui, gbul, gbua, gbub]
    refine ⟨fun d hd => ?_, fun d hd hde => ?_, fun j hj => ?_, fun d hd => ?_, fun d j hd hj hd1 hdj => ?_, fun d hd hde => ?_⟩
    · by_cases hdn : d = n
      · subst hdn; exact ⟨k, hk, z11⟩
      · rw [nS_a (by decide) hdn]; exact w1 d (by omega)
    · rw [nS_k (by decide)]; exact w2 d (by omega)
    · rw [nS_6]
      by_cases hjk : j = k
      · subst hjk; rw [if_pos rfl]; exact Or.inr ⟨n, by omega, rfl, z11, z20⟩
      · rw [if_neg hjk]
        rcases w3 j hj with q | ⟨d, q1, q2, q3, q4⟩
        · exact Or.inl q
        · exact Or.inr ⟨d, by omega, q2, by rw [nS_a (by decide) (by omega)]; exact q3, by rw [nS_a (by decide) (by omega)]; exact q4⟩
    · by_cases hdn : d = n
      · subst hdn; exact Or.inr z20
      · rw [nS_a (by decide) hdn]; exact w4 d (by omega)
    · rw [nS_6]
      by_cases hdn : d = n
      · subst hdn
        rw [z11, nI_eq (by omega) (by omega)] at hdj
        rw [if_pos hdj.symm]
      · rw [nS_a (by decide) hdn] at hd1 hdj
        have := w5 d j (by omega) hj hd1 hdj
        by_cases hjk : j = k
        · subst hjk
          rw [hno] at this
          exact absurd this.symm (nI_m1 (by omega))
        · rw [if_neg hjk]; exact this
    · rw [ef]; exact w6 d (by omega)
  · have e1 : ∀ j, j ≠ 10 → gi (newS s n k) j = gi s j := fun j hj => nS_i hj
    refine ⟨u1, ?_, by rw [e1 36 (by decide)]; exact u3, by rw [e1 2 (by decide)]; exact u4, by rw [e1 3 (by decide)]; exact u5, hnQ, u7, fun e he => by rw [nS_k (by decide)]; exact u8 e he, fun j hj => absurd hj (hV j), by rw [nS_i (by decide)]; exact u10⟩
    rw [e1 1 (by decide), e1 32 (by decide), e1 33 (by decide), e1 34 (by decide), e1 39 (by decide), e1 40 (by decide)]
    exact u2
  · obtain ⟨g1, g2, g3, g4, g5, g6, g7⟩ := hI
    have hmap : ∀ r, in3 r → (L r).map (esN es n (hp_N σ)) = (L r).map es := fun r hr => List.map_congr_left (fun d hd => esN_o (g4 r hr d hd))
    refine ⟨?_, fun r hr => ⟨?_, ?_⟩, g3, fun r hr d hd => by have := g4 r hr d hd; omega, fun d hd => ?_, fun d hd hno' => ?_, fun d d' hd hd' he => ?_⟩
    · obtain ⟨r0, r1, r2, r3⟩ := g1
      exact ⟨by rw [cC _ (by omega)]; exact r0, by rw [cR _ _ _ (by omega)]; exact r1, by rw [cR _ _ _ (by omega)]; exact r2, by rw [cR _ _ _ (by omega)]; exact r3⟩
    · rw [hmap r hr]
      have hra : rA c r < hp_N σ := by unfold rA; have := hr.2; omega
      obtain ⟨c1, c2, c3, c4, c5, c6⟩ := (g2 r hr).1
      refine ⟨by rw [cC _ hra]; exact c1, by rw [cR _ _ _ hra]; exact c2, by rw [cR _ _ _ hra]; exact c3, by rw [cI _ _ _ hra]; exact c4, seg_congr (fun a ha => ?_) c5, c6⟩
      obtain ⟨d, hd, rfl⟩ := List.mem_map.mp ha
      have := n2 d (g4 r hr d hd)
      exact ⟨cC _ this, cR _ _ _ this, cR _ _ _ this, cR _ _ _ this⟩
    · have hra : rA c r < hp_N σ := by unfold rA; have := hr.2; omega
      rw [cI _ _ _ hra, (g2 r hr).2]
      have := sw_upd (wt := ga s 13) (wt' := va_up (ga s 13) n 0) (e := n) (L r) (List.Pairwise.of_map es (fun a b h z => h (by rw [z])) (g2 r hr).1.2.2.2.2.2) (fun d _ hde => by unfold va_up; rw [if_neg hde])
      rw [this, if_neg (fun q => by have := g4 r hr n q; omega)]
    · by_cases hdn : d = n
      · subst hdn
        rw [esN_n]
        exact ⟨by rw [nH_C, if_pos rfl], by rw [nH_In (Or.inr (by decide))]; simp [va_up]⟩
      · have := n2 d (by omega)
        rw [esN_o (by omega), cC _ this, cI _ _ _ this]
        refine ⟨(g5 d (by omega)).1, ?_⟩
        unfold va_up; rw [if_neg hdn]; exact (g5 d (by omega)).2
    · by_cases hdn : d = n
      · subst hdn; rw [esN_n, nH_R, if_pos rfl]
      · have := n2 d (by omega)
        rw [esN_o (by omega), cR _ _ _ this]
        exact g6 d (by omega) hno'
    · by_cases hdn : d = n
      · by_cases hdn' : d' = n
        · omega
        · rw [hdn, esN_n, esN_o (by omega)] at he
          have := n2 d' (by omega); omega
      · by_cases hdn' : d' = n
        · rw [hdn', esN_n, esN_o (by omega)] at he
          have := n2 d (by omega); omega
        · rw [esN_o (by omega), esN_o (by omega)] at he
          exact g7 d d' (by omega) (by omega) he
  · obtain ⟨g1, g2, g3, g4, g5, st, tt, g6, g7, g8, g9⟩ := hR
    refine ⟨by rw [nS_10, nI_1], by omega, fun d hd => ?_, fun r hr d hd => by have := g4 r hr d hd; omega, g5, st, tt, g6, g7, g8, g9⟩
    by_cases hdn : d = n
    · subst hdn
      refine ⟨0, by omega, by simp [newS, giui, giul, giua, giub, glui, glul, glua, glub, gaui, gaul, gaua, gaub, gbui, gbul, gbua, gbub, nI_0], fun q hq => ⟨fun hm => ?_, fun q0 => by have := hq.1; omega⟩⟩
      have := g4 q hq d hm; omega
    · rw [nS_a (by decide) hdn]; exact g3 d (by omega)
  · obtain ⟨t', q, f', x1, x2, x3, x4, x5, x6⟩ := hN0
    refine ⟨t', q, f', x1, x2, by rw [nS_k (by decide)]; exact x3, by rw [cI _ _ _ (by omega)]; exact x4, by rw [nH_A (by omega)]; exact x5, fun j j1 j2 => ?_⟩
    obtain ⟨y1, y2, y3⟩ := x6 j j1 j2
    exact ⟨by omega, by rw [esN_o y1]; exact y2, by rw [nS_k (by decide)]; exact y3⟩
  · obtain ⟨t', q, f', x1, x2, x3, x4, x5, x6⟩ := hN1
    refine ⟨t', q, f', x1, x2, by rw [nS_k (by decide)]; exact x3, by rw [cI _ _ _ (by omega)]; exact x4, by rw [nH_A (by omega)]; exact x5, fun j j1 j2 => ?_⟩
    obtain ⟨y1, y2, y3⟩ := x6 j j1 j2
    exact ⟨by omega, by rw [esN_o y1]; exact y2, by rw [nS_k (by decide)]; exact y3⟩
end NW
