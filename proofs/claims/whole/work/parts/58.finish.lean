/-! remove and finish -/
section FI
variable {b σ σ' : Hp} {m c n Q z N B B' t o1 : Nat} {o : Nat × (Nat → Int32)} {es : Nat → Nat} {W : Nat → Int32} {s s' : RS} {L L' : Nat → List Nat} {wt : Nat → Int32}
theorem Sim.val (h : Sim c o es n Q z W L B t σ s) {e : Nat} (he : e < 1999) : ga s 12 e = o.2 e := h.1.2.2.2.2.2.2.2.2.2.2.2.2.2.2.2.2.2.2.1 e he
theorem c_remove (hb : hp_C b m = some 11) (hN : 10000 ≤ N) (h : SS c o1 Q σ s) (hQ : Q + 1 ≤ 599) (p : Int32) : ∃ r σ' s', f_W_remove N (some c) p σ = some (r, σ') ∧ f_M_remove N (some m) p (rh b m s) = some (r, rh b m s') ∧ SS c o1 (Q + 1) σ' s' := by
  obtain ⟨V, es, n, z, W, L, t, ht, hn, hV, hS0⟩ := h.op hQ
  have hS := hS0.thr (x := 0)
  rcases key_cases p with hp | ⟨k, hk, rfl, hp⟩
  · exact ⟨-1, σ, ui s 0 0, by simp [f_W_remove, f_W_remove_17, (hp σ).1, pb], by simp [f_M_remove, stIr hb, (hp _).2, pb], SS.cl hS (by omega) ht⟩
  · obtain ⟨hR, hI, hRR, hN0, hN1, hT⟩ := id hS
    have h600 := hRR.2.1
    have hWF := hR.2.2.2.2.2.2.2.2.2.2.1
    obtain ⟨k0, k1, k2, -⟩ := id hR.1
    obtain ⟨f, fA, fM⟩ := id hR.2.2.2.2.1
    have hik : ix_ (nI k) 1000 = some k := ixN hk (by decide)
    cases hm : mpo (ui s 0 0) k with
    | none =>
      have hno : ga (ui s 0 0) 6 k = -1 := by
        rcases hWF.2.2.1 k hk with q | ⟨d, q1, q2, -⟩
        · exact q
        · rw [mpo_some q2 (by omega)] at hm; cases hm
      have fk : f k = none := by rw [fM k hk, hm]; rfl
      refine ⟨-1, σ, ui s 0 0, ?_, ?_, SS.cl hS (by omega) ht⟩
      · simp [f_W_remove, f_W_remove_17, (hp σ).1, pb, ldR k0, k1, alR fA hik, fk]
      · simp [f_M_remove, stIr hb, (hp _).2, pb, ldRr hb, al6, hik, hno]
    | some e =>
      obtain ⟨hen, h6, h11, h20⟩ := hWF.mpo h600 hk hm
      have hC := hI.c3 hen
      have hiS := hR.isSeen hen hC
      have fk : f k = some (es e) := by rw [fM k hk, hm]; rfl
      have hm1 := nI_m1 (e := e) (by omega)
      have hie : ix_ (nI e) 1100 = some e := ixN (by omega) (by decide)
      have ho := over_run (b := b) (m := m) (s := ui s 0 0) hb (e := e) (by omega) (hWF.2.2.2.2.2 e hen)
      have go : ∀ w : Int32, ∃ x σ1 σ2 σ' s1 s' L' W' t', f_W_dropFromMap (some c) (some (es e)) w σ = some σ1 ∧ SK σ1 c ∧ f_M_drop (some m) (nI e) w (rh b m (ui s 0 0)) = some (rh b m s1) ∧ f_Ta_addUntilFull (some (c + 7)) 2 (some (es e)) σ1 = some (x, σ2) ∧ SK σ2 c ∧ ((x = 0 ∧ σ' = σ2) ∨ (x = 1 ∧ f_W_tidy N (some c) σ2 = some σ')) ∧ f_M_task N (some m) 2 (nI e) (rh b m s1) = some (rh b m s') ∧ t' < 8 ∧ Sim c (o1, va_up V 1999 0) es n (Q + 1) z W' L' (100000 * (600 - (Q + 1))) t' σ' s' := by
        intro w
        obtain ⟨σ1, s1, f1, f2, hR1, ml, rl, r20⟩ := hR.drop (b := b) (m := m) hb hen h600 hC (fun d hd q => hI.2.2.2.2.2.2 d e hd hen q) h20 w
        have hI1 : RI σ1 c es n (ga s1 13) L := by
          rw [rl.2.1 13 (by decide) (by decide) (by decide) (by decide) (by decide)]; exact hI.ml ml
        obtain ⟨x1, σ2, σ', s', L', W', t', f4, sk2, f5, f6, ht', hS2⟩ := addTask (N := N) (B := 100000 * (600 - (Q + 1))) (b := b) (m := m) (σ0 := σ) (s0 := ui s 0 0) (e := e) (kd := 2) hb hN hR1 hI1 ((hRR.ml rl).le (by omega)) (hN0.ml (by decide) ml rl) (hN1.ml (by decide) ml rl) hT (Nat.le_refl _) (fun _ _ => rfl) ht
          (by rw [ml.2.2.2.2.1 9 _ _ (by decide) (Or.inl (by decide))])
          (by rw [ml.2.2.2.2.2 _ (by omega) (by omega) (by omega) (by omega)])
          (by rw [ml.2.2.2.2.2 _ (by omega) (by omega) (by omega) (by omega)])
          (rl.1 27 (by decide))
          (rl.2.1 25 (by decide) (by decide) (by decide) (by decide) (by decide))
          (rl.2.1 26 (by decide) (by decide) (by decide) (by decide) (by decide))
          (fun y hy h0 => by
            rw [r20] at h0
            by_cases hye : y = e
            · exact Or.inr ⟨hye, rfl⟩
            · rw [if_neg hye] at h0
              obtain ⟨r, hr, hm'⟩ := hy
              exact Or.inl ⟨h0, hI.lt hr hm'⟩)
          (by decide) hen (fun q => by cases q)
        rw [show nI 2 = 2 from rfl] at f4 f6
        exact ⟨x1, σ1, σ2, σ', s1, s', L', W', t', f1, hR1.1, f2, f4, sk2, f5, f6, ht', hS2⟩
      by_cases hov : en (ui s 0 0) e ≤ gl (ui s 0 0) 5
      · rw [if_pos hov] at hiS
        obtain ⟨x, σ1, σ2, σ', s1, s', L', W', t', f1, sk1, f2, f3, sk2, f4, f5, ht', hS'⟩ := go 2
        refine ⟨-1, σ', s', ?_, ?_, SS.cl hS' (by omega) ht'⟩
        · rcases f4 with ⟨rfl, rfl⟩ | ⟨rfl, f4⟩
          · simp [f_W_remove, f_W_remove_17, f_W_remove_41, f_W_remove_60, (hp σ).1, pb, ldR k0, k1, alR fA hik, fk, isO k0, hiS, f1, ldR sk1.1, sk1.2.2.2.2.2.1, isO sk1.2.2.2.2.2.2.2.2.2.2.2.2.2.1, f3]
          · simp [f_W_remove, f_W_remove_17, f_W_remove_41, f_W_remove_60, (hp σ).1, pb, ldR k0, k1, alR fA hik, fk, isO k0, hiS, f1, ldR sk1.1, sk1.2.2.2.2.2.1, isO sk1.2.2.2.2.2.2.2.2.2.2.2.2.2.1, f3, isO sk2.1, f4]
        · simp [f_M_remove, f_M_remove_51, f_M_remove_64, stIr hb, (hp _).2, pb, ldRr hb, al6, hik, h6, hm1, isOr hb, ho, ovI, hov, f2, f5]
      · rw [if_neg hov] at hiS
        obtain ⟨x, σ1, σ2, σ', s1, s', L', W', t', f1, sk1, f2, f3, sk2, f4, f5, ht', hS'⟩ := go 0
        have hval : hp_I σ' 3 1 (es e) = ga s 12 e := by
          rw [(hS'.1.2.2.2.1 e hen).2.1, hS'.val (by omega)]
          exact (hS.val (e := e) (by omega)).symm
        have hC' := hS'.2.1.c3 hen
        refine ⟨ga s 12 e, σ', s', ?_, ?_, SS.cl hS' (by omega) ht'⟩
        · rcases f4 with ⟨rfl, rfl⟩ | ⟨rfl, f4⟩
          · simp [f_W_remove, f_W_remove_17, f_W_remove_41, f_W_remove_60, (hp σ).1, pb, ldR k0, k1, alR fA hik, fk, isO k0, hiS, f1, ldR sk1.1, sk1.2.2.2.2.2.1, isO sk1.2.2.2.2.2.2.2.2.2.2.2.2.2.1, f3, ldI hC', hval]
          · simp [f_W_remove, f_W_remove_17, f_W_remove_41, f_W_remove_60, (hp σ).1, pb, ldR k0, k1, alR fA hik, fk, isO k0, hiS, f1, ldR sk1.1, sk1.2.2.2.2.2.1, isO sk1.2.2.2.2.2.2.2.2.2.2.2.2.2.1, f3, isO sk2.1, f4, ldI hC', hval]
        · have hv : ga (ui s 0 0) 12 e = ga s 12 e := rfl
          simp [f_M_remove, f_M_remove_51, f_M_remove_64, stIr hb, (hp _).2, pb, ldRr hb, al6, al12, hik, hie, h6, hm1, isOr hb, ho, ovI, hov, hv, f2, f5]
/-- whether what was on its way is welcome -/
theorem welcome (hb : hp_C b m = some 11) (h : Sim c o es n Q z W L B t σ s) {k : Nat} (hk : k < 1000) {a : Nat} (ha : hp_C σ a = some 10) {v w fl : Int32} (hw : (fl = 0 ∧ hp_R σ 10 0 a = none) ∨ (¬ fl = 0 ∧ ∃ e, e < n ∧ ga s 8 k = nI e ∧ hp_R σ 10 0 a = some (es e) ∧ hp_I σ 10 1 a = ga s 9 k)) : ∃ g, (g = 0 ∨ g = 1) ∧ f_W_isWelcome (some c) (some a) (nI k) σ = some (g, σ) ∧ (pb (f_M_seen (some m) (nI k) (rh b m s)) fun x27 σ26 =>
  if fl = 0 then
  (
    if x27 = ((-1)) then
    (
      f_M_finish_152 N (some m) (nI k) v w 1 σ26)
    else
    (
      f_M_finish_152 N (some m) (nI k) v w 0 σ26))
  else
  (
    if x27 = ((-1)) then
    (
      f_M_finish_137 N (some m) (nI k) v w σ26)
    else
    (
      Option.bind (ld_R σ26 (some m) 11 8) fun x39 =>
      Option.bind (al_I σ26 0 x39 (nI k)) fun x41 =>
      if x27 = x41 then
      (
        Option.bind (ld_R σ26 (some m) 11 16) fun x44 =>
        Option.bind (al_I σ26 0 x44 x27) fun x46 =>
        Option.bind (ld_R σ26 (some m) 11 9) fun x48 =>
        Option.bind (al_I σ26 0 x48 (nI k)) fun x50 =>
        if x46 = x50 then
        (
          f_M_finish_152 N (some m) (nI k) v w 1 σ26)
        else
        (
          f_M_finish_137 N (some m) (nI k) v w σ26))
      else
      (
        f_M_finish_137 N (some m) (nI k) v w σ26)))) = f_M_finish_152 N (some m) (nI k) v w g (rh b m s) := by
  obtain ⟨hR, hI, hRR, hN0, hN1, hT⟩ := id h
  have h600 := hRR.2.1
  have hWF := hR.2.2.2.2.2.2.2.2.2.2.1
  obtain ⟨k0, k1, k2, -⟩ := id hR.1
  obtain ⟨f, fA, fM⟩ := id hR.2.2.2.2.1
  have hik : ix_ (nI k) 1000 = some k := ixN hk (by decide)
  have hs := seen_run (b := b) (m := m) hb hWF h600 hk
  rcases hw with ⟨rfl, hw⟩ | ⟨hfl, e0, he0, w8, w0, w1⟩
  · cases hm : mpo s k with
    | none =>
      have hse : seen s k = none := by simp [seen, hm]
      rw [hse] at hs
      have fk : f k = none := by rw [fM k hk, hm]; rfl
      refine ⟨1, Or.inr rfl, ?_, ?_⟩
      · simp [f_W_isWelcome, ldR k0, k1, alR fA hik, fk, ldR ha, hw, isO k0, f_W_isSeen, pb]
      · simp [hs, pb, oI]
    | some e =>
      obtain ⟨hen, h6, h11, h20⟩ := hWF.mpo h600 hk hm
      have hC := hI.c3 hen
      have hiS := hR.isSeen hen hC
      have fk : f k = some (es e) := by rw [fM k hk, hm]; rfl
      have hm1 := nI_m1 (e := e) (by omega)
      by_cases hov : en s e ≤ gl s 5
      · rw [if_pos hov] at hiS
        have hse : seen s k = none := by simp [seen, hm, hov]
        rw [hse] at hs
        refine ⟨1, Or.inr rfl, ?_, ?_⟩
        · simp [f_W_isWelcome, ldR k0, k1, alR fA hik, fk, ldR ha, hw, isO k0, hiS, pb]
        · simp [hs, pb, oI]
      · rw [if_neg hov] at hiS
        have hse : seen s k = some e := by simp [seen, hm, hov]
        rw [hse] at hs
        refine ⟨0, Or.inl rfl, ?_, ?_⟩
        · simp [f_W_isWelcome, ldR k0, k1, alR fA hik, fk, ldR ha, hw, isO k0, hiS, pb]
        · simp [hs, pb, oI, hm1]
  · cases hm : mpo s k with
    | none =>
      have hse : seen s k = none := by simp [seen, hm]
      rw [hse] at hs
      have fk : f k = none := by rw [fM k hk, hm]; rfl
      refine ⟨0, Or.inl rfl, ?_, ?_⟩
      · simp [f_W_isWelcome, ldR k0, k1, alR fA hik, fk, ldR ha, w0]
      · simp [hs, pb, oI, hfl, f_M_finish_137]
    | some e =>
      obtain ⟨hen, h6, h11, h20⟩ := hWF.mpo h600 hk hm
      have hC := hI.c3 hen
      have hiS := hR.isSeen hen hC
      have fk : f k = some (es e) := by rw [fM k hk, hm]; rfl
      have hm1 := nI_m1 (e := e) (by omega)
      have hie : ix_ (nI e) 1100 = some e := ixN (by omega) (by decide)
      by_cases hee : e = e0
      · subst hee
        by_cases hov : en s e ≤ gl s 5
        · rw [if_pos hov] at hiS
          have hse : seen s k = none := by simp [seen, hm, hov]
          rw [hse] at hs
          refine ⟨0, Or.inl rfl, ?_, ?_⟩
          · simp [f_W_isWelcome, ldR k0, k1, alR fA hik, fk, ldR ha, w0, isO k0, hiS, pb]
          · simp [hs, pb, oI, hfl, f_M_finish_137]
        · rw [if_neg hov] at hiS
          have hse : seen s k = some e := by simp [seen, hm, hov]
          rw [hse] at hs
          have hed : hp_I σ 3 3 (es e) = ga s 16 e := (hR.2.2.2.1 e hen).2.2.1
          by_cases hpu : ga s 16 e = ga s 9 k
          · refine ⟨1, Or.inr rfl, ?_, ?_⟩
            · simp [f_W_isWelcome, ldR k0, k1, alR fA hik, fk, ldR ha, w0, isO k0, hiS, pb, ldI hC, ldI ha, hed, w1, hpu]
            · simp [hs, pb, oI, hfl, hm1, ldRr hb, al8, al16, al9, hik, hie, w8, hpu]
          · refine ⟨0, Or.inl rfl, ?_, ?_⟩
            · simp [f_W_isWelcome, ldR k0, k1, alR fA hik, fk, ldR ha, w0, isO k0, hiS, pb, ldI hC, ldI ha, hed, w1, hpu]
            · simp [hs, pb, oI, hfl, hm1, ldRr hb, al8, al16, al9, hik, hie, w8, hpu, f_M_finish_137]
      · have hne : ¬ es e = es e0 := fun q => hee (hI.2.2.2.2.2.2 e e0 hen he0 q)
        refine ⟨0, Or.inl rfl, ?_, ?_⟩
        · simp [f_W_isWelcome, ldR k0, k1, alR fA hik, fk, ldR ha, w0, hne]
        · by_cases hov : en s e ≤ gl s 5
          · have hse : seen s k = none := by simp [seen, hm, hov]
            rw [hse] at hs
            simp [hs, pb, oI, hfl, f_M_finish_137]
          · have hse : seen s k = some e := by simp [seen, hm, hov]
            rw [hse] at hs
            have hn8 : ¬ nI e = nI e0 := fun q => hee ((nI_eq (by omega) (by omega)).mp q)
            simp [hs, pb, oI, hfl, hm1, ldRr hb, al8, hik, w8, hn8, f_M_finish_137]
theorem c_finish (hb : hp_C b m = some 11) (hN : 10000 ≤ N) (h : SS c o1 Q σ s) (hQ : Q + 1 ≤ 599) (p v w : Int32) : ∃ kx r σ' s', f_L_finish N (some c) p v w (some o1) σ = some (kx, σ') ∧ f_M_finish N (some m) p v w (rh b m s) = some (r, rh b m s') ∧ gi s' 0 = kx ∧ SS c o1 (Q + 1) σ' s' ∧ (kx = 0 → (r = 0 ∧ al_L σ' 1 (some o1) 0 = some 0) ∨ (¬ r = 0 ∧ al_L σ' 1 (some o1) 0 = some 1)) := by
  obtain ⟨V, es, n, z, W, L, t, ht, hn, hV, hS⟩ := h.op hQ
  have k0 := hS.1.1.1
  have k2 := hS.1.1.2.2.1
  have bad : ∀ (y : Nat) (q : Int32), (y = 1 ∧ q = 1) ∨ (y = 0 ∧ q = 2) → f_W_finish N (some c) p v w σ = some (Sum.inr y, nw_X σ) → f_M_finish N (some m) p v w (rh b m s) = some (0, rh b m (ui s 0 q)) → ∃ kx r σ' s', f_L_finish N (some c) p v w (some o1) σ = some (kx, σ') ∧ f_M_finish N (some m) p v w (rh b m s) = some (r, rh b m s') ∧ gi s' 0 = kx ∧ SS c o1 (Q + 1) σ' s' ∧ (kx = 0 → (r = 0 ∧ al_L σ' 1 (some o1) 0 = some 0) ∨ (¬ r = 0 ∧ al_L σ' 1 (some o1) 0 = some 1)) := by
    intro y q hyq f1 f2
    refine ⟨q, 0, nw_X σ, ui s 0 q, ?_, f2, by simp [giui, giul, giua, giub, glui, glul, glua, glub, gaui, gaul, gaua, gaub, gbui, gbul, gbua, gbub], SS.cl (hS.thr.nx) (by omega) ht, fun q0 => ?_⟩
    · rcases hyq with ⟨rfl, rfl⟩ | ⟨rfl, rfl⟩
      · simp [f_L_finish, isO k0, f1, pbx]
      · simp [f_L_finish, isO k0, f1, pbx]
    · rcases hyq with ⟨rfl, rfl⟩ | ⟨rfl, rfl⟩
      · exact absurd q0 (by decide)
      · exact absurd q0 (by decide)
  rcases key_cases p with hp | ⟨k, hk, rfl, hp⟩
  · exact bad 1 1 (Or.inl ⟨rfl, rfl⟩) (by simp [f_W_finish, f_W_finish_17, (hp σ).1, pb]) (by simp [f_M_finish, f_M_finish_17, f_M_finish_42, (hp _).2, pb, stIr hb, ldIr hb, giui, giul, giua, giub, glui, glul, glua, glub, gaui, gaul, gaua, gaub, gbui, gbul, gbua, gbub])
  · obtain ⟨g, gA, gM⟩ := id hS.1.2.2.2.2.2.1
    have hik : ix_ (nI k) 1000 = some k := ixN hk (by decide)
    rcases gM k hk with ⟨q1, q2⟩ | ⟨a, q1, q2, q3, q4⟩
    · exact bad 1 1 (Or.inl ⟨rfl, rfl⟩) (by simp [f_W_finish, f_W_finish_17, (hp σ).1, pb, ldR k0, k2, alR gA hik, q2]) (by simp [f_M_finish, f_M_finish_17, f_M_finish_42, (hp _).2, pb, stIr hb, ldIr hb, giui, giul, giua, giub, glui, glul, glua, glub, gaui, gaul, gaua, gaub, gbui, gbul, gbua, gbub, ldRr hb, al7, hik, q1])
    · have hw7 : ¬ ga s 7 k = 0 := by
        rcases q4 with q4 | q4
        · rw [q4.1]; decide
        · rw [q4.1]; decide
      rcases val_cases v w with ⟨hv, hc⟩ | ⟨hv, h1, h2, h3w, w0, hw1, hw2, rfl⟩
      · refine bad 0 2 (Or.inr ⟨rfl, rfl⟩) (by simp [f_W_finish, f_W_finish_17, (hp σ).1, pb, ldR k0, k2, alR gA hik, q1, hv]) ?_
        rcases hc with h1 | ⟨h1, h2⟩ | ⟨h1, h2, h3⟩
        · simp [f_M_finish, f_M_finish_37, f_M_finish_42, (hp _).2, pb, stIr hb, ldIr hb, giui, giul, giua, giub, glui, glul, glua, glub, gaui, gaul, gaua, gaub, gbui, gbul, gbua, gbub, ldRr hb, al7, hik, hw7, h1]
        · simp [f_M_finish, f_M_finish_37, f_M_finish_42, (hp _).2, pb, stIr hb, ldIr hb, giui, giul, giua, giub, glui, glul, glua, glub, gaui, gaul, gaua, gaub, gbui, gbul, gbua, gbub, ldRr hb, al7, hik, hw7, h1, h2]
        · have h3' : ¬ w ≤ 1000 := Int32.not_le.mpr h3
          simp [f_M_finish, f_M_finish_37, f_M_finish_42, (hp _).2, pb, stIr hb, ldIr hb, giui, giul, giua, giub, glui, glul, glua, glub, gaui, gaul, gaua, gaub, gbui, gbul, gbua, gbub, ldRr hb, al7, hik, hw7, h1, h2, h3']
      · have h3' : nI w0 ≤ 1000 := Int32.not_lt.mp h3w
        have hS1 := ((hS.thr (x := 0)).unway gA gM (k := k)).fin
        have i11 := hS.ints.1
        have e41 : gi (ua (ui s 0 0) 7 k 0) 41 = gi s 41 := rfl
        rw [e41] at hS1
        generalize hσ1 : up_I (up_A σ (c + 2) (4, 1000, .inr (.inr (.inr (.inr (va_up g k none)))))) 0 11 c (gi s 41 + 1) = σ1 at *
        generalize hs1 : ui (ua (ui s 0 0) 7 k 0) 41 (gi s 41 + 1) = s1 at *
        have ha : hp_C σ1 a = some 10 := by rw [← hσ1]; exact q2
        have hfl : ((if ga s 7 k = 2 then (1 : Int32) else 0) = 0 ∧ hp_R σ1 10 0 a = none) ∨ (¬ (if ga s 7 k = 2 then (1 : Int32) else 0) = 0 ∧ ∃ e, e < n ∧ ga s1 8 k = nI e ∧ hp_R σ1 10 0 a = some (es e) ∧ hp_I σ1 10 1 a = ga s1 9 k) := by
          have e8 : ga s1 8 k = ga s 8 k := by rw [← hs1]; simp [giui, giul, giua, giub, glui, glul, glua, glub, gaui, gaul, gaua, gaub, gbui, gbul, gbua, gbub]
          have e9 : ga s1 9 k = ga s 9 k := by rw [← hs1]; simp [giui, giul, giua, giub, glui, glul, glua, glub, gaui, gaul, gaua, gaub, gbui, gbul, gbua, gbub]
          have eR : hp_R σ1 10 0 a = hp_R σ 10 0 a := by rw [← hσ1]; rfl
          have eI : hp_I σ1 10 1 a = hp_I σ 10 1 a := by rw [← hσ1, hI_I, if_neg (by omega), hI_A]
          rw [e8, e9, eR, eI]
          rcases q4 with ⟨p1, p2⟩ | ⟨p1, p2⟩
          · rw [p1]; exact Or.inl ⟨by decide, p2⟩
          · rw [p1]; exact Or.inr ⟨by decide, p2⟩
        obtain ⟨gg, hgg, f1, f2⟩ := welcome (N := N) (b := b) (m := m) (v := v) (w := nI w0) hb hS1 hk ha hfl
        have kk0 := hS1.1.1.1
        have cl1 : f_W_finish N (some c) (nI k) v (nI w0) σ = if gg = 0 then some (Sum.inl 0, σ1) else pb (f_W_store N (some c) (nI k) v (nI w0) 0 σ1) fun x28 σ27 => some (Sum.inl 1, σ27) := by
          have d1 : st_I (up_A σ (c + 2) (4, 1000, .inr (.inr (.inr (.inr (va_up g k none)))))) (some c) 0 11 (gi s 41 + 1) = some σ1 := by
            rw [stI (σ := up_A σ (c + 2) (4, 1000, .inr (.inr (.inr (.inr (va_up g k none)))))) k0, hσ1]
          have d2 : ld_I (up_A σ (c + 2) (4, 1000, .inr (.inr (.inr (.inr (va_up g k none)))))) (some c) 0 11 = some (gi s 41) := by
            rw [ldI (σ := up_A σ (c + 2) (4, 1000, .inr (.inr (.inr (.inr (va_up g k none)))))) k0, hI_A, i11]
          simp [f_W_finish, f_W_finish_17, (hp σ).1, pb, ldR k0, k2, alR gA hik, q1, hv, asR0 gA hik, d2, d1, isO kk0, f1]
        have rf1 : f_M_finish N (some m) (nI k) v (nI w0) (rh b m s) = f_M_finish_152 N (some m) (nI k) v (nI w0) gg (rh b m s1) := by
          rw [← f2, ← hs1]
          by_cases h7 : ga s 7 k = 2
          · simp [f_M_finish, f_M_finish_42, f_M_finish_69, (hp _).2, pb, stIr hb, ldIr hb, giui, giul, giua, giub, glui, glul, glua, glub, gaui, gaul, gaua, gaub, gbui, gbul, gbua, gbub, ldRr hb, al7, as7, hik, hw7, h1, h2, h3', h7, isOr hb]
          · simp [f_M_finish, f_M_finish_42, f_M_finish_69, (hp _).2, pb, stIr hb, ldIr hb, giui, giul, giua, giub, glui, glul, glua, glub, gaui, gaul, gaua, gaub, gbui, gbul, gbua, gbub, ldRr hb, al7, as7, hik, hw7, h1, h2, h3', h7, isOr hb]
        have n10 : ¬ (1 : Int32) = 0 := by decide
        rcases hgg with rfl | rfl
        · obtain ⟨σ2, f3, h3, -, f4⟩ := hS1.out (x := 0)
          have g0 : gi s1 0 = 0 := by rw [← hs1]; simp [giui, giul, giua, giub, glui, glul, glua, glub, gaui, gaul, gaua, gaub, gbui, gbul, gbua, gbub]
          refine ⟨0, 0, σ2, s1, ?_, ?_, g0, SS.cl h3 (by omega) ht, fun _ => Or.inl ⟨rfl, f4⟩⟩
          · have f3' : as_L σ1 1 (some o1) 0 0 = some σ2 := f3
            simp [f_L_finish, f_L_finish_18, isO k0, cl1, pbx, f3']
          · rw [rf1]; simp [f_M_finish_152]
        · obtain ⟨σ', s', r, V', es', n', L', W', t', hr, f5, f6, ht', hv9, hS'⟩ := (hS1.le (B' := 100000 * (600 - (Q + 1)) + 60000) (by omega)).store hb hN ht hk hn (hV9 hV) (v := v) (x := 0) hw1 hw2
          have g0 : gi s' 0 = 0 := by
            rw [hS'.gi0]
            show V' 1999 = 0
            rw [hv9]; simp [va_up]
          obtain ⟨σ2, f3, h3, -, f4⟩ := hS'.out (x := 1)
          refine ⟨0, 1, σ2, s', ?_, ?_, g0, SS.cl h3 (by omega) ht', fun _ => Or.inr ⟨n10, f4⟩⟩
          · have f3' : as_L σ' 1 (some o1) 0 1 = some σ2 := f3
            simp [f_L_finish, f_L_finish_18, isO k0, cl1, pbx, f5, pb, f3']
          · rw [rf1]; simp [f_M_finish_152, isOr hb, f6, pb]
end FI
