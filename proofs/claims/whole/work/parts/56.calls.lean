/-! THE CALLS -/
def SS (c o Q : Nat) (σ : Hp) (s : RS) : Prop := ∃ V es n z W L t, t < 8 ∧ Sim c (o, V) es n Q z W L (100000 * (600 - Q)) t σ s
section CS
variable {b σ σ' : Hp} {m c n Q z N B B' t o1 : Nat} {o : Nat × (Nat → Int32)} {es : Nat → Nat} {W : Nat → Int32} {s s' : RS} {L L' : Nat → List Nat} {wt : Nat → Int32}
theorem Sim.bump (h : Sim c o es n Q z W L B t σ s) (hQ : Q + 1 ≤ 599) : Sim c o es n (Q + 1) z W L B t σ s := by
  obtain ⟨w0, ⟨mx, w, st, r, a, d, g1, g2, g3, g4, g5, g6, g7, g8, g9, g10, g11, g12, g13, g14⟩, g36, w2, w3, w4, w5, w6⟩ := id h.1.2.2.2.2.2.2.2.2.2.2.2
  exact h.num ⟨rfl, fun _ => rfl, fun _ _ _ => rfl, fun _ _ _ => rfl, fun _ _ _ _ _ _ => rfl, fun _ => rfl⟩ ⟨fun _ _ => rfl, fun _ _ => rfl, fun _ => rfl, fun _ _ => rfl⟩ h.1.2.1 h.1.2.2.1 ⟨w0, ⟨mx, w, st, r, a, d, g1, g2, g3, g4, g5, g6, g7, g8, g9, g10, g11, g12, g13, by omega⟩, g36, w2, w3, by omega, hQ, w6⟩
theorem Sim.thr {x : Int32} (h : Sim c o es n Q z W L B t σ s) : Sim c (o.1, va_up o.2 1999 x) es n Q z W L B t σ (ui s 0 x) := by
  obtain ⟨⟨a1, a2, a3, a4, a5, a6, a7, a8, a9, a10, a11, u1, u2, u3, u4, u5, u6, u7, u8, u9, u10⟩, h2⟩ := h
  refine ⟨⟨a1, a2, a3, a4, a5, a6, a7, a8, a9, a10, a11, u1, u2, u3, u4, u5, u6, u7, fun e he => ?_, fun k hk => ?_, ?_⟩, h2⟩
  · show ga s 12 e = va_up o.2 1999 x e
    unfold va_up; rw [if_neg (by omega)]; exact u8 e he
  · have hk : va_up o.2 1999 x (2000 + k) = 1 := hk
    unfold va_up at hk
    rw [if_neg (by omega)] at hk; exact u9 k hk
  · show x = va_up o.2 1999 x 1999
    unfold va_up; rw [if_pos rfl]
/-- a world with a later next address -/
theorem Sim.bn {N' : Nat} (h : Sim c o es n Q z W L B t σ s) (hN : hp_N σ ≤ N') : Sim c o es n Q z W L B t (bmp N' σ) s := by
  obtain ⟨⟨h1, h2, h2b, h3, h4, h5, h6, h7, h8, h9, h10, h11⟩, hI, hR, hN0, hN1, hT⟩ := h
  refine ⟨⟨h1, h2, h2b, h3, h4, ?_, h6, h7, h8, ?_, h10, h11⟩, ?_, hR, hN0, hN1, hT⟩
  · obtain ⟨f, fA, fM⟩ := h5
    refine ⟨f, fA, fun k hk => ?_⟩
    rcases fM k hk with q | ⟨a, q1, q2, q3, q4⟩
    · exact Or.inl q
    · exact Or.inr ⟨a, q1, q2, Nat.lt_of_lt_of_le q3 hN, q4⟩
  · exact ⟨Nat.lt_of_lt_of_le h9.1 hN, fun e he => Nat.lt_of_lt_of_le (h9.2 e he) hN⟩
  · obtain ⟨g1, g2, g3, g4, g5, g6, g7⟩ := hI
    refine ⟨g1, fun r hr => ⟨?_, (g2 r hr).2⟩, g3, g4, g5, g6, g7⟩
    obtain ⟨c1, c2, c3, c4, c5, c6⟩ := (g2 r hr).1
    exact ⟨c1, c2, c3, c4, seg_congr (σ := σ) (fun b _ => ⟨rfl, rfl, rfl, rfl⟩) c5, c6⟩
theorem Sim.nx (h : Sim c o es n Q z W L B t σ s) : Sim c o es n Q z W L B t (nw_X σ) s := h.bn (N' := hp_N σ + 1) (by omega)
/-- the law's own array -/
theorem Sim.out (h : Sim c o es n Q z W L B t σ s) {x : Int64} : ∃ σ', as_L σ 1 (some o.1) 0 x = some σ' ∧ Sim c o es n Q z W L B t σ' s ∧ hp_N σ' = hp_N σ ∧ al_L σ' 1 (some o.1) 0 = some x := by
  obtain ⟨⟨h1, h2, h2b, h3, h4, h5, h6, h7, h8, h9, h10, h11⟩, hI, hR, hN0, hN1, hT⟩ := h
  obtain ⟨⟨f, fA⟩, hc⟩ := h8
  have hA : ∀ a, a ≤ c + 21 → hp_A (up_A σ o.1 (1, 1, .inr (.inl (va_up f 0 x)))) a = hp_A σ a := fun a ha => by rw [hA_A, if_neg (by omega)]
  refine ⟨up_A σ o.1 (1, 1, .inr (.inl (va_up f 0 x))), ?_, ⟨⟨h1, h2, h2b, h3, ?_, ?_, ?_, ?_, ?_, h9, h10, h11⟩, hI.upA, hR, ?_, ?_, ?_⟩, rfl, ?_⟩
  · simp [as_L, ar_L, fA, ix_]
  · unfold MP at *; rw [hA _ (by omega)]; exact h4
  · unfold WY at *; rw [hA _ (by omega)]; exact h5
  · unfold LGt at *; rw [hA _ (by omega), hA _ (by omega), hA _ (by omega)]; exact h6
  · unfold CTT at *; rw [hA _ (by omega)]; exact h7
  · exact ⟨⟨va_up f 0 x, by rw [hA_A, if_pos rfl]⟩, hc⟩
  · exact hN0.upA (by omega)
  · exact hN1.upA (by omega)
  · exact hT.upA (by omega) (by omega)
  · simp [al_L, ar_L, hA_A, ix_, va_up]
theorem SS.op (h : SS c o1 Q σ s) (hQ : Q + 1 ≤ 599) : ∃ V es n z W L t, t < 8 ∧ n + 1 ≤ Q + 1 ∧ (∀ j, V (2000 + j) ≠ 1) ∧ Sim c (o1, V) es n (Q + 1) z W L (100000 * (600 - (Q + 1)) + 100000) t σ s := by
  obtain ⟨V, es, n, z, W, L, t, ht, hS⟩ := h
  have hn : n ≤ Q := hS.1.2.2.2.2.2.2.2.2.2.2.2.2.2.2.2.2.1
  refine ⟨fun j => if j < 2000 then V j else 0, es, n, z, W, L, t, ht, by omega, fun j hj => ?_, ?_⟩
  · have hj : (if 2000 + j < 2000 then V (2000 + j) else 0) = (1 : Int32) := hj
    rw [if_neg (by omega)] at hj; exact absurd hj (by decide)
  · have := (hS.setV (V' := fun j => if j < 2000 then V j else 0) (fun j hj => by simp [hj]) (fun j hj => by
      have hj : (if 2000 + j < 2000 then V (2000 + j) else 0) = (1 : Int32) := hj
      rw [if_neg (by omega)] at hj; exact absurd hj (by decide))).bump hQ
    exact this.le (by omega)
theorem SS.cl {V : Nat → Int32} (h : Sim c (o1, V) es n (Q + 1) z W L B t σ s) (hB : 100000 * (600 - (Q + 1)) ≤ B) (ht : t < 8) : SS c o1 (Q + 1) σ s := ⟨V, es, n, z, W, L, t, ht, h.le hB⟩
theorem key_cases (p : Int32) : (∀ τ, f_W_isKey p τ = some (0, τ) ∧ f_M_isKey p τ = some (0, τ)) ∨ ∃ k, k < 1000 ∧ p = nI k ∧ ∀ τ, f_W_isKey p τ = some (1, τ) ∧ f_M_isKey p τ = some (1, τ) := by
  rcases pk_ix p (n := 1000) (by decide) with hp | hp | ⟨k, hk, rfl⟩
  · exact Or.inl fun τ => ⟨by simp [f_W_isKey, hp], by simp [f_M_isKey, hp]⟩
  · have hp' : (1000 : Int32) ≤ p := hp
    refine Or.inl fun τ => ⟨?_, ?_⟩
    · by_cases h0 : p < 0
      · simp [f_W_isKey, h0]
      · simp [f_W_isKey, h0, hp']
    · by_cases h0 : p < 0
      · simp [f_M_isKey, h0]
      · simp [f_M_isKey, h0, hp']
  · have h0 := nI_pos (n := k) (by omega)
    have h1 : ¬ (1000 : Int32) ≤ nI k := nI_ge (b := 1000) hk (by decide)
    exact Or.inr ⟨k, hk, rfl, fun τ => ⟨by simp [f_W_isKey, h0, h1], by simp [f_M_isKey, h0, h1]⟩⟩
theorem c_get (hb : hp_C b m = some 11) (h : SS c o1 Q σ s) (hQ : Q + 1 ≤ 599) (p : Int32) : ∃ r σ' s', f_W_get (some c) p σ = some (r, σ') ∧ f_M_get (some m) p (rh b m s) = some (r, rh b m s') ∧ SS c o1 (Q + 1) σ' s' := by
  rcases key_cases p with hp | ⟨k, hk, rfl, hp⟩
  · obtain ⟨V, es, n, z, W, L, t, ht, hn, hV, hS⟩ := h.op hQ
    exact ⟨-1, σ, ui s 0 0, by simp [f_W_get, (hp σ).1, pb], by simp [f_M_get, stIr hb, (hp _).2, pb], SS.cl hS.thr (by omega) ht⟩
  · obtain ⟨V, es, n, z, W, L, t, ht, hS⟩ := h
    obtain ⟨r, σ', s', f1, f2, hS'⟩ := (hS.thr (x := 0)).ask hb hQ hk
    exact ⟨r, σ', s', by simp [f_W_get, (hp σ).1, pb, isO hS.1.1.1, f1], by simp [f_M_get, stIr hb, (hp _).2, pb, isOr hb, f2], SS.cl hS' (by omega) ht⟩
theorem c_has (hb : hp_C b m = some 11) (h : SS c o1 Q σ s) (hQ : Q + 1 ≤ 599) (p : Int32) : ∃ r σ' s', f_W_has (some c) p σ = some (r, σ') ∧ f_M_has (some m) p (rh b m s) = some (r, rh b m s') ∧ SS c o1 (Q + 1) σ' s' := by
  obtain ⟨V, es, n, z, W, L, t, ht, hn, hV, hS⟩ := h.op hQ
  rcases key_cases p with hp | ⟨k, hk, rfl, hp⟩
  · exact ⟨0, σ, ui s 0 0, by simp [f_W_has, (hp σ).1, pb], by simp [f_M_has, stIr hb, (hp _).2, pb], SS.cl hS.thr (by omega) ht⟩
  · obtain ⟨hR, hI, hRR, -⟩ := id hS
    have h600 := hRR.2.1
    have hWF := hR.2.2.2.2.2.2.2.2.2.2.1
    obtain ⟨k0, k1, -⟩ := id hR.1
    obtain ⟨f, fA, fM⟩ := id hR.2.2.2.2.1
    have hik : ix_ (nI k) 1000 = some k := ixN hk (by decide)
    have hs := seen_run (b := b) (m := m) (s := ui s 0 0) hb hWF h600 hk
    cases hm : mpo s k with
    | none =>
      have hse : seen (ui s 0 0) k = none := by
        have : seen s k = none := by simp [seen, hm]
        exact this
      rw [hse] at hs
      have fk : f k = none := by rw [fM k hk, hm]; rfl
      refine ⟨0, σ, ui s 0 0, ?_, ?_, SS.cl hS.thr (by omega) ht⟩
      · simp [f_W_has, (hp σ).1, pb, ldR k0, k1, alR fA hik, fk, isO k0, f_W_isSeen]
      · simp [f_M_has, stIr hb, (hp _).2, pb, isOr hb, hs, oI]
    | some e =>
      obtain ⟨hen, h6, h11, h20⟩ := hWF.mpo h600 hk hm
      have hC := hI.c3 hen
      have hiS := hR.isSeen hen hC
      have fk : f k = some (es e) := by rw [fM k hk, hm]; rfl
      have hm1 := nI_m1 (e := e) (by omega)
      by_cases hov : en s e ≤ gl s 5
      · rw [if_pos hov] at hiS
        have hse : seen (ui s 0 0) k = none := by
          have : seen s k = none := by simp [seen, hm, hov]
          exact this
        rw [hse] at hs
        refine ⟨0, σ, ui s 0 0, ?_, ?_, SS.cl hS.thr (by omega) ht⟩
        · simp [f_W_has, (hp σ).1, pb, ldR k0, k1, alR fA hik, fk, isO k0, hiS]
        · simp [f_M_has, stIr hb, (hp _).2, pb, isOr hb, hs, oI]
      · rw [if_neg hov] at hiS
        have hse : seen (ui s 0 0) k = some e := by
          have : seen s k = some e := by simp [seen, hm, hov]
          exact this
        rw [hse] at hs
        refine ⟨1, σ, ui s 0 0, ?_, ?_, SS.cl hS.thr (by omega) ht⟩
        · simp [f_W_has, (hp σ).1, pb, ldR k0, k1, alR fA hik, fk, isO k0, hiS]
        · simp [f_M_has, stIr hb, (hp _).2, pb, isOr hb, hs, oI, hm1]
theorem c_often (hb : hp_C b m = some 11) (hN : 10000 ≤ N) (h : SS c o1 Q σ s) (hQ : Q + 1 ≤ 599) (p : Int32) : ∃ r σ' s', f_W_often N (some c) p σ = some (r, σ') ∧ f_M_often N (some m) p (rh b m s) = some (r, rh b m s') ∧ SS c o1 (Q + 1) σ' s' := by
  obtain ⟨V, es, n, z, W, L, t, ht, hn, hV, hS⟩ := h.op hQ
  rcases key_cases p with hp | ⟨k, hk, rfl, hp⟩
  · exact ⟨-1, σ, ui s 0 0, by simp [f_W_often, (hp σ).1, pb], by simp [f_M_often, stIr hb, (hp _).2, pb], SS.cl hS.thr (by omega) ht⟩
  · obtain ⟨k0, k1, k2, k3, k4, k5, k6, k7, k8, -⟩ := id hS.1.1
    obtain ⟨r, f1, f2⟩ := (hS.thr (x := 0)).1.2.2.2.2.2.2.2.1.least (b := b) (m := m) (N := N) hb (by omega) (nI k)
    exact ⟨r, σ, ui s 0 0, by simp [f_W_often, (hp σ).1, pb, ldR k0, k8, isO hS.1.2.2.2.2.2.2.2.1.1, f1], by simp [f_M_often, stIr hb, (hp _).2, pb, isOr hb, f2], SS.cl hS.thr (by omega) ht⟩
theorem c_maintain (hb : hp_C b m = some 11) (hN : 10000 ≤ N) (h : SS c o1 Q σ s) (hQ : Q + 1 ≤ 599) : ∃ r σ' s', f_W_maintain N (some c) σ = some (r, σ') ∧ f_M_maintain N (some m) (rh b m s) = some (r, rh b m s') ∧ SS c o1 (Q + 1) σ' s' := by
  obtain ⟨V, es, n, z, W, L, t, ht, hn, hV, hS⟩ := h.op hQ
  obtain ⟨σ', s', L', W', f1, f2, h'⟩ := ((hS.thr (x := 0)).le (B' := 100000 * (600 - (Q + 1)) + 30000) (by omega)).tidy hb hN
  obtain ⟨k0, k1, k2, k3, k4, k5, k6, k7, k8, k9, -⟩ := id h'.1.1
  exact ⟨sw (ga s' 13) (L' 1) + sw (ga s' 13) (L' 2) + sw (ga s' 13) (L' 3), σ', s', by simp [f_W_maintain, isO hS.1.1.1, f1, ldR k0, k9, isO h'.2.1.1.1, h'.2.1.weight, pb], by simp [f_M_maintain, stIr hb, isOr hb, f2, all_run hb h'.2.2.1 (N := N) (by omega), pb], SS.cl h' (by omega) (by decide)⟩
theorem c_listened (hb : hp_C b m = some 11) (h : SS c o1 Q σ s) (hQ : Q + 1 ≤ 599) (p q : Int32) : ∃ r σ' s', f_W_listened (some c) p q σ = some (r, σ') ∧ f_M_listened (some m) p q (rh b m s) = some (r, rh b m s') ∧ SS c o1 (Q + 1) σ' s' := by
  obtain ⟨V, es, n, z, W, L, t, ht, hn, hV, hS⟩ := h.op hQ
  obtain ⟨k0, k1, k2, k3, k4, k5, k6, k7, k8, k9, k10, k11, k12, k13, k14, k15, k16, k17, k18, k19, k20, k21, k22, k23⟩ := id hS.1.1
  obtain ⟨g1, ⟨t', ht', h45⟩, g3, g4, g5⟩ := hS.1.2.2.2.2.2.2.1
  rw [h45] at g1
  have i45 : gi (ui s 0 0) 45 = nI t' := h45
  rcases pk_ix p (n := t') (by omega) with hp | hp | ⟨j, hj, rfl⟩
  · exact ⟨-1, σ, ui s 0 0, by simp [f_W_listened, ldR k0, k6, isO k14, f_Lo_told, hp, pb], by simp [f_M_listened, stIr hb, hp], SS.cl hS.thr (by omega) ht⟩
  · have hlt : ¬ p < nI t' := Int32.not_lt.mpr hp
    by_cases h0 : p < 0
    · exact ⟨-1, σ, ui s 0 0, by simp [f_W_listened, ldR k0, k6, isO k14, f_Lo_told, h0, pb], by simp [f_M_listened, stIr hb, h0], SS.cl hS.thr (by omega) ht⟩
    · exact ⟨-1, σ, ui s 0 0, by simp [f_W_listened, ldR k0, k6, isO k14, f_Lo_told, h0, pb, ldI k14, g1, hlt], by simp [f_M_listened, stIr hb, h0, ldIr hb, i45, hlt], SS.cl hS.thr (by omega) ht⟩
  · have h0 := nI_pos (n := j) (by omega)
    have hlt : nI j < nI t' := nI_lt hj (by omega)
    have hij : ix_ (nI j) 500 = some j := ixN (by omega) (by decide)
    by_cases q0 : q = 0
    · exact ⟨ga s 46 j, σ, ui s 0 0, by simp [f_W_listened, ldR k0, k6, isO k14, f_Lo_told, h0, pb, ldI k14, g1, hlt, q0, ldR k14, k21, alI g3 hij], by simp [f_M_listened, stIr hb, h0, ldIr hb, i45, hlt, q0, ldRr hb, al46, hij, giui, giul, giua, giub, glui, glul, glua, glub, gaui, gaul, gaua, gaub, gbui, gbul, gbua, gbub], SS.cl hS.thr (by omega) ht⟩
    · by_cases q1 : q = 1
      · exact ⟨ga s 47 j, σ, ui s 0 0, by simp [f_W_listened, ldR k0, k6, isO k14, f_Lo_told, h0, pb, ldI k14, g1, hlt, q0, q1, ldR k14, k22, alI g4 hij], by simp [f_M_listened, stIr hb, h0, ldIr hb, i45, hlt, q0, q1, ldRr hb, al47, hij, giui, giul, giua, giub, glui, glul, glua, glub, gaui, gaul, gaua, gaub, gbui, gbul, gbua, gbub], SS.cl hS.thr (by omega) ht⟩
      · by_cases q2 : q = 2
        · exact ⟨ga s 48 j, σ, ui s 0 0, by simp [f_W_listened, ldR k0, k6, isO k14, f_Lo_told, h0, pb, ldI k14, g1, hlt, q0, q1, q2, ldR k14, k23, alI g5 hij], by simp [f_M_listened, stIr hb, h0, ldIr hb, i45, hlt, q0, q1, q2, ldRr hb, al48, hij, giui, giul, giua, giub, glui, glul, glua, glub, gaui, gaul, gaua, gaub, gbui, gbul, gbua, gbub], SS.cl hS.thr (by omega) ht⟩
        · exact ⟨-1, σ, ui s 0 0, by simp [f_W_listened, ldR k0, k6, isO k14, f_Lo_told, h0, pb, ldI k14, g1, hlt, q0, q1, q2], by simp [f_M_listened, stIr hb, h0, ldIr hb, i45, hlt, q0, q1, q2], SS.cl hS.thr (by omega) ht⟩
theorem Sim.time {T : Int64} (h : Sim c o es n Q z W L B t σ s) (h0 : 0 ≤ T.toInt) (h1 : T.toInt ≤ 1099511627776) : Sim c o es n Q z W L B t (up_L σ 4 2 (c + 14) T) (ul s 5 T) := by
  obtain ⟨⟨h1', h2, h2b, h3, h4, h5, h6, h7, h8, h9, h10, h11⟩, hI, hR, hN0, hN1, hT⟩ := h
  refine ⟨⟨h1', ?_, h2b, h3, h4, h5, h6, h7, h8, h9, h10, ?_⟩, hI.upL, hR, hN0, hN1, hT⟩
  · obtain ⟨q1, q2, q3, q4, q5, q6, q7, q8, q9, q10, q11⟩ := h2
    exact ⟨q1, q2, q3, q4, q5, q6, q7, by rw [hL_L, if_pos ⟨rfl, rfl, rfl⟩]; rfl, q9, q10, q11⟩
  · obtain ⟨u1, u2⟩ := h11
    exact ⟨⟨h0, h1⟩, u2⟩
theorem c_advance (hb : hp_C b m = some 11) (h : SS c o1 Q σ s) (hQ : Q + 1 ≤ 599) (p : Int32) : ∃ r σ' s', f_W_advance (some c) p σ = some (r, σ') ∧ f_M_advance (some m) p (rh b m s) = some (r, rh b m s') ∧ SS c o1 (Q + 1) σ' s' := by
  obtain ⟨V, es, n, z, W, L, t, ht, hn, hV, hS⟩ := h.op hQ
  by_cases hp : p < 0
  · exact ⟨-1, σ, ui s 0 0, by simp [f_W_advance, hp], by simp [f_M_advance, stIr hb, hp], SS.cl hS.thr (by omega) ht⟩
  · obtain ⟨k0, k1, k2, k3, k4, k5, k6, k7, k8, k9, k10, k11, k12, k13, k14, k15, -⟩ := id hS.1.1
    have hT : hp_L σ 4 2 (c + 14) = gl s 5 := hS.1.2.1.2.2.2.2.2.2.2.1
    by_cases hle : gl s 5 + p.toInt64 ≤ 1099511627776
    · obtain ⟨⟨w0, w1⟩, -⟩ := hS.1.2.2.2.2.2.2.2.2.2.2.2
      have hp0 : 0 ≤ p.toInt := by
        have := Int32.not_lt.mp hp
        rw [Int32.le_iff_toInt_le] at this
        exact this
      have hp1 := p.toInt_lt
      have e : (gl s 5 + p.toInt64).toInt = (gl s 5).toInt + p.toInt := by
        rw [Int64.toInt_add, Int32.toInt_toInt64, Int.bmod_eq_of_le (by omega) (by omega)]
      have e2 : (1099511627776 : Int64).toInt = 1099511627776 := by decide
      have h1 : (gl s 5 + p.toInt64).toInt ≤ 1099511627776 := by
        have := Int64.le_iff_toInt_le.mp hle
        rw [e2] at this; exact this
      have hS' := (hS.thr (x := 0)).time (T := gl s 5 + p.toInt64) (by omega) h1
      refine ⟨gl s 5 + p.toInt64, _, _, ?_, ?_, SS.cl hS' (by omega) ht⟩
      · simp [f_W_advance, hp, ldR, ldL, stL, k0, k7, k15, hT, lgc_le0, hle, hC_L, hR_L, hL_L]
      · simp [f_M_advance, stIr hb, hp, ldLr hb, stLr hb, lgc_le0, giui, giul, giua, giub, glui, glul, glua, glub, gaui, gaul, gaua, gaub, gbui, gbul, gbua, gbub, hle]
    · refine ⟨-1, σ, ui s 0 0, ?_, ?_, SS.cl hS.thr (by omega) ht⟩
      · simp [f_W_advance, hp, ldR, ldL, k0, k7, k15, hT, lgc_le0, hle]
      · simp [f_M_advance, stIr hb, hp, ldLr hb, lgc_le0, giui, giul, giua, giub, glui, glul, glua, glub, gaui, gaul, gaua, gaub, gbui, gbul, gbua, gbub, hle]
end CS
