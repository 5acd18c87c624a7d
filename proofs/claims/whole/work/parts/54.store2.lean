/-! STORE and LAY -/
section ST2
variable {b σ σ' : Hp} {m c n Q z N B B' t : Nat} {o : Nat × (Nat → Int32)} {es : Nat → Nat} {W : Nat → Int32} {s s' : RS} {L L' : Nat → List Nat} {wt : Nat → Int32}
theorem fill_new {a : Nat} {v w x wr tc : Int32} {T : Int64} (k0 : hp_C σ c = some 0) (k7 : hp_R σ 0 6 c = some (c + 14)) (k15 : hp_C σ (c + 14) = some 4) (ha : hp_C σ a = some 3) (h8 : hp_R σ 3 8 a = none) (h0 : hp_I σ 4 0 (c + 14) = wr) (h1 : hp_I σ 4 1 (c + 14) = tc) (h2 : hp_L σ 4 2 (c + 14) = T) : ∃ (F : Int64) (l : Int32) (E : Int64), ∀ (X : Nat × vp_A) (y : Nat), f_W_fill (some c) (some a) v w x σ = some (filH σ a v w (hp_I σ 3 3 a + 1) F l E) ∧ f_W_fill (some c) (some a) v w x (up_A σ y X) = some (up_A (filH σ a v w (hp_I σ 3 3 a + 1) F l E) y X) := by
  have key : ∃ (F : Int64) (l : Int32) (E : Int64), ∀ (τ : Hp), hp_C τ a = some 3 → hp_C τ (c + 14) = some 4 → hp_I τ 4 0 (c + 14) = wr → hp_I τ 4 1 (c + 14) = tc → hp_L τ 4 2 (c + 14) = T → f_Li_begin (some (c + 14)) (some a) x τ = some (begH τ a F l E) := ⟨_, _, _, fun τ g1 g2 g3 g4 g5 => begin_run g1 g2 g3 g4 g5⟩
  obtain ⟨F, l, E, hk⟩ := key
  have run : ∀ (τ : Hp), hp_C τ c = some 0 → hp_R τ 0 6 c = some (c + 14) → hp_C τ (c + 14) = some 4 → hp_C τ a = some 3 → hp_R τ 3 8 a = none → hp_I τ 4 0 (c + 14) = wr → hp_I τ 4 1 (c + 14) = tc → hp_L τ 4 2 (c + 14) = T → f_W_fill (some c) (some a) v w x τ = some (filH τ a v w (hp_I τ 3 3 a + 1) F l E) := by
    intro τ g0 g7 g15 ga g8 gh0 gh1 gh2
    have hb := hk (up_I (up_I (up_I τ 3 1 a v) 3 2 a w) 3 3 a (hp_I τ 3 3 a + 1)) ga g15 (by rw [hI_I, if_neg (by omega), hI_I, if_neg (by omega), hI_I, if_neg (by omega)]; exact gh0) (by rw [hI_I, if_neg (by omega), hI_I, if_neg (by omega), hI_I, if_neg (by omega)]; exact gh1) gh2
    unfold f_W_fill
    rw [ldR ga, Option.bind_some, g8, if_pos rfl]
    unfold f_W_fill_25
    rw [stI ga, Option.bind_some, stI (σ := up_I τ 3 1 a v) ga, Option.bind_some, ldI (σ := up_I (up_I τ 3 1 a v) 3 2 a w) ga, Option.bind_some, hI_I, if_neg (by omega), hI_I, if_neg (by omega), stI (σ := up_I (up_I τ 3 1 a v) 3 2 a w) ga, Option.bind_some, ldR (σ := up_I (up_I (up_I τ 3 1 a v) 3 2 a w) 3 3 a (hp_I τ 3 3 a + 1)) g0, Option.bind_some, hR_I, hR_I, hR_I, g7, isO (σ := up_I (up_I (up_I τ 3 1 a v) 3 2 a w) 3 3 a (hp_I τ 3 3 a + 1)) g15, Option.bind_some, hb, Option.bind_some]
    rfl
  refine ⟨F, l, E, fun X y => ⟨run σ k0 k7 k15 ha h8 h0 h1 h2, ?_⟩⟩
  have := run (up_A σ y X) k0 k7 k15 ha h8 h0 h1 h2
  rw [this]
  rfl
theorem Rest.setV {V' : Nat → Int32} (h : Rest c o es n Q z W σ s) (h1 : ∀ e, e < 2000 → V' e = o.2 e) (h2 : ∀ k, V' (2000 + k) = 1 → ga s 6 k = -1) : Rest c (o.1, V') es n Q z W σ s := by
  obtain ⟨a1, a2, a3, a4, a5, a6, a7, a8, a9, a10, a11, u1, u2, u3, u4, u5, u6, u7, u8, u9, u10⟩ := h
  exact ⟨a1, a2, a3, a4, a5, a6, a7, a8, a9, a10, a11, u1, u2, u3, u4, u5, u6, u7, fun e he => (u8 e he).trans (h1 e (by omega)).symm, h2, u10.trans (h1 1999 (by decide)).symm⟩
theorem Sim.setV {V' : Nat → Int32} (h : Sim c o es n Q z W L B t σ s) (h1 : ∀ e, e < 2000 → V' e = o.2 e) (h2 : ∀ k, V' (2000 + k) = 1 → ga s 6 k = -1) : Sim c (o.1, V') es n Q z W L B t σ s := ⟨h.1.setV h1 h2, h.2⟩
def nbH (σ : Hp) (k : Nat) : Hp := up_I (nw_O σ 3) 3 0 (hp_N σ) (nI k)
theorem newH_nb {k : Nat} {f : Nat → Option Nat} : newH σ c k f = up_A (nbH σ k) (c + 1) (3, 1000, .inr (.inr (.inr (.inr (va_up f k (some (hp_N σ))))))) := rfl
theorem nb_init {k : Nat} : f_En_init (some (hp_N σ)) (nI k) (nw_O σ 3) = some (nbH σ k) := by
  simp [f_En_init, stI (σ := nw_O σ 3) (a := hp_N σ) (ci := 3) (by rw [nC, if_pos rfl]), nbH]
theorem nb_C {k a : Nat} (h : a ≠ hp_N σ) : hp_C (nbH σ k) a = hp_C σ a := by unfold nbH; rw [hC_I, nC, if_neg h]
theorem nb_R {k x j a : Nat} (h : a ≠ hp_N σ) : hp_R (nbH σ k) x j a = hp_R σ x j a := by unfold nbH; rw [hR_I, nR, if_neg h]
theorem nb_CN {k : Nat} : hp_C (nbH σ k) (hp_N σ) = some 3 := by unfold nbH; rw [hC_I, nC, if_pos rfl]
theorem nb_RN {k x j : Nat} : hp_R (nbH σ k) x j (hp_N σ) = none := by unfold nbH; rw [hR_I, nR, if_pos rfl]
theorem nb_A {k a : Nat} : hp_A (nbH σ k) a = hp_A σ a := by unfold nbH; rw [hA_I, nA]
/-- the class's part of it: fill, then the map -/
theorem fresh_fill {k : Nat} (hk : k < 1000) (hc : c + 21 < hp_N σ) (hS : SK σ c) {f : Nat → Option Nat} (fA : hp_A σ (c + 1) = some (3, 1000, .inr (.inr (.inr (.inr f))))) {v w x : Int32} {σ2 : Hp} (h2 : f_W_fill (some c) (some (hp_N σ)) v w x (newH σ c k f) = some σ2) : ∃ σ1, f_W_fill (some c) (some (hp_N σ)) v w x (nbH σ k) = some σ1 ∧ ld_R σ1 (some c) 0 0 = some (some (c + 1)) ∧ as_R σ1 3 3 (some (c + 1)) (nI k) (some (hp_N σ)) = some σ2 := by
  obtain ⟨k0, k1, k2, k3, k4, k5, k6, k7, k8, k9, k10, k11, k12, k13, k14, k15, -⟩ := hS
  have hik : ix_ (nI k) 1000 = some k := ixN hk (by decide)
  have cA : hp_C (nbH σ k) (hp_N σ) = some 3 := nb_CN
  have a0 : hp_C (nbH σ k) c = some 0 := by rw [nb_C (by omega)]; exact k0
  have a1 : hp_R (nbH σ k) 0 0 c = some (c + 1) := by rw [nb_R (by omega)]; exact k1
  have a7 : hp_R (nbH σ k) 0 6 c = some (c + 14) := by rw [nb_R (by omega)]; exact k7
  have a15 : hp_C (nbH σ k) (c + 14) = some 4 := by rw [nb_C (by omega)]; exact k15
  have aA : hp_A (nbH σ k) (c + 1) = some (3, 1000, .inr (.inr (.inr (.inr f)))) := by rw [nb_A]; exact fA
  have a8 : hp_R (nbH σ k) 3 8 (hp_N σ) = none := nb_RN
  rw [newH_nb] at h2
  generalize nbH σ k = σb at *
  generalize hp_N σ = a at *
  obtain ⟨F, l, E, hF⟩ := fill_new (σ := σb) (c := c) (a := a) (v := v) (w := w) (x := x) a0 a7 a15 cA a8 rfl rfl rfl
  obtain ⟨g1, g2⟩ := hF (3, 1000, .inr (.inr (.inr (.inr (va_up f k (some a)))))) (c + 1)
  have e2 := Option.some.inj (h2.symm.trans g2)
  refine ⟨_, g1, ?_, ?_⟩
  · rw [ldR (by rw [fH_C]; exact a0), fH_R, a1]
  · rw [asR (f := f) (by rw [fH_A]; exact aA) hik (by rw [fH_C]; exact cA), e2]
/-- a new entry is stored -/
theorem Sim.fresh (hb : hp_C b m = some 11) (hN : 10000 ≤ N) (h : Sim c o es n Q z W L (B + 30000) t σ s) (ht : t < 8) {k : Nat} (hk : k < 1000) (hno : ga s 6 k = -1) (hnQ : n + 1 ≤ Q) (hV : ∀ j, o.2 (2000 + j) ≠ 1) {v x : Int32} {w0 : Nat} (hw1 : 1 ≤ w0) (hw2 : w0 ≤ 1000) : ∃ σ' s' V' es' n' L' W' t', f_W_store_90 N (some c) (nI k) v (nI w0) x σ = some (0, σ') ∧ f_M_lay_63 N (some m) (nI k) v (nI w0) x 0 (rh b m s) = some (0, rh b m s') ∧ t' < 8 ∧ V' 1999 = o.2 1999 ∧ Sim c (o.1, V') es' n' Q z W' L' B t' σ' s' := by
  obtain ⟨f, fA, fM⟩ := id h.1.2.2.2.2.1
  obtain ⟨hX, hI, hRR, hN0, hN1⟩ := h.newX hk hno hnQ hV fA fM
  have h600 := hRR.2.1
  have hT := h.2.2.2.2.2
  have hik : ix_ (nI k) 1000 = some k := ixN hk (by decide)
  have hin : ix_ (nI n) 1100 = some n := ixN (by omega) (by decide)
  have hcN := h.1.2.2.2.2.2.2.2.2.2.1.1
  have k0 := h.1.1.1
  obtain ⟨σ2, f1, hR2, hI2, mf⟩ := fill_ok (v := v) (x := x) hX hI (fun d hd hde => by
    unfold va_up; rw [if_neg hde, nS_k (by decide)]) (by omega) hw1 hw2
  rw [esN_n] at f1
  obtain ⟨σ1, g1, d1, d2⟩ := fresh_fill hk hcN h.1.1 fA f1
  have h27 : gi (layS (newS s n k) n v (nI w0) x) 27 = gi s 27 := by
    have h1 : gi (layS (newS s n k) n v (nI w0) x) 27 = gi (newS s n k) 27 := rfl
    rw [h1, nS_i (by decide)]
  have hh : ∀ j, ga (layS (newS s n k) n v (nI w0) x) 25 j = ga s 25 j ∧ ga (layS (newS s n k) n v (nI w0) x) 26 j = ga s 26 j := fun j => ⟨by rw [lay_ga (by decide), nS_k (by decide)], by rw [lay_ga (by decide), nS_k (by decide)]⟩
  obtain ⟨x1, σ3, σ', s', L', W', t', f4, sk3, f5, f6, ht', hS⟩ := addTask (N := N) (B := B) (b := b) (m := m) (σ0 := σ) (s0 := s) (es0 := es) (n0 := n) (e := n) (kd := 0) hb hN hR2 hI2 hRR.lay (hN0.mf mf) (hN1.mf mf) hT (by omega) (fun y hy => esN_o hy) ht
    (by rw [mf.2.2.2.2.1 9 _ _ (by decide) (by decide), nH_I (by omega)])
    (by rw [mf.2.2.2.2.2, nH_A (by omega)])
    (by rw [mf.2.2.2.2.2, nH_A (by omega)])
    h27
    (funext fun j => (hh j).1)
    (funext fun j => (hh j).2)
    (fun y hy h0 => by
      obtain ⟨r, hr, hm'⟩ := hy
      have hyn := h.2.1.lt hr hm'
      rw [lay_ga (by decide), nS_a (by decide) (by omega)] at h0
      exact Or.inl ⟨h0, hyn⟩)
    (by decide) (by omega) (fun _ => ⟨Nat.le_refl _, fun r hr hm' => by have := h.2.1.lt hr hm'; omega⟩)
  rw [esN_n, nI_0] at f4
  rw [nI_0] at f6
  refine ⟨σ', s', va_up o.2 n v, esN es n (hp_N σ), n + 1, L', W', t', ?_, ?_, ht', by unfold va_up; rw [if_neg (by omega)], hS⟩
  · have d0 : is_O (nbH σ k) (some c) 0 = some c := isO (by rw [nb_C (by omega)]; exact k0)
    have kk2 := hR2.1
    rcases f5 with ⟨rfl, rfl⟩ | ⟨rfl, f5⟩
    · simp only [f_W_store_90, nb_init, Option.bind_some, d0, g1, d1, d2, ldR kk2.1, kk2.2.2.2.2.2.1, isO kk2.2.2.2.2.2.2.2.2.2.2.2.2.2.1, f4, pb, if_true]
    · have n10 : ¬ (1 : Int32) = 0 := by decide
      simp only [f_W_store_90, nb_init, Option.bind_some, d0, g1, d1, d2, ldR kk2.1, kk2.2.2.2.2.2.1, isO kk2.2.2.2.2.2.2.2.2.2.2.2.2.2.1, f4, pb, n10, if_false, isO sk3.1, f5]
  · have e1 : f_M_lay_63 N (some m) (nI k) v (nI w0) x 0 (rh b m s) = f_M_lay_119 N (some m) v (nI w0) x (nI n) 0 (rh b m (newS s n k)) := by
      have h10 := h.2.2.1.1
      simp [f_M_lay_63, ldIr hb, stIr hb, ldRr hb, h10, as11, as20z1, as15, as16, as6, hin, hik, newS]
    rw [e1, lay_run hb (by omega), if_pos rfl]
    simp [f_M_lay_188, isOr hb, f6]
/-- STORE and LAY -/
theorem Sim.store (hb : hp_C b m = some 11) (hN : 10000 ≤ N) (h : Sim c o es n Q z W L (B + 60000) t σ s) (ht : t < 8) {k : Nat} (hk : k < 1000) (hnQ : n + 1 ≤ Q) (hV : ∀ j, o.2 (2000 + j) ≠ 1) {v x : Int32} {w0 : Nat} (hw1 : 1 ≤ w0) (hw2 : w0 ≤ 1000) : ∃ σ' s' r V' es' n' L' W' t', (r = 0 ∨ r = 1) ∧ f_W_store N (some c) (nI k) v (nI w0) x σ = some (r, σ') ∧ f_M_lay N (some m) (nI k) v (nI w0) x (rh b m s) = some (r, rh b m s') ∧ t' < 8 ∧ V' 1999 = o.2 1999 ∧ Sim c (o.1, V') es' n' Q z W' L' B t' σ' s' := by
  obtain ⟨hR, hI, hRR, hN0, hN1, hT⟩ := id h
  have h600 := hRR.2.1
  have hWF := hR.2.2.2.2.2.2.2.2.2.2.1
  obtain ⟨k0, k1, k2, k3, k4, k5, k6, k7, k8, k9, k10, k11, k12, k13, k14, -⟩ := id hR.1
  obtain ⟨f, fA, fM⟩ := id hR.2.2.2.2.1
  have hik : ix_ (nI k) 1000 = some k := ixN hk (by decide)
  have hs := seen_run (b := b) (m := m) hb hWF h600 hk
  cases hm : mpo s k with
  | none =>
    have hno : ga s 6 k = -1 := by
      rcases hWF.2.2.1 k hk with q | ⟨d, q1, q2, -⟩
      · exact q
      · rw [mpo_some q2 (by omega)] at hm; cases hm
    obtain ⟨σ', s', V', es', n', L', W', t', f1, f2, ht', hv9, hS⟩ := (h.le (B' := B + 30000) (by omega)).fresh hb hN ht hk hno hnQ hV (v := v) (x := x) hw1 hw2
    refine ⟨σ', s', 0, V', es', n', L', W', t', Or.inl rfl, ?_, ?_, ht', hv9, hS⟩
    · have fk : f k = none := by rw [fM k hk, hm]; rfl
      simp [f_W_store, f_W_store_61, ldR k0, k1, alR fA hik, fk, f1]
    · have : seen s k = none := by simp [seen, hm]
      rw [this] at hs
      simp [f_M_lay, f_M_lay_18, isOr hb, hs, pb, oI, ldRr hb, al6, hik, hno, f2]
  | some e =>
    obtain ⟨hen, h6, h11, h20⟩ := hWF.mpo h600 hk hm
    have hC := hI.c3 hen
    by_cases hov : en s e ≤ gl s 5
    · -- over: it goes first
      obtain ⟨σ1, s1, f1, f2, hR1, ml, rl, r20⟩ := hR.drop (b := b) (m := m) hb hen h600 hC (fun d hd q => hI.2.2.2.2.2.2 d e hd hen q) h20 2
      have hI1 : RI σ1 c es n (ga s1 13) L := by
        rw [rl.2.1 13 (by decide) (by decide) (by decide) (by decide) (by decide)]; exact hI.ml ml
      have hno1 : ga s1 6 k = -1 := by
        rcases hR1.2.2.2.2.2.2.2.2.2.2.1.2.2.1 k hk with q | ⟨d, q1, q2, q3, q4⟩
        · exact q
        · rw [r20] at q4
          by_cases hde : d = e
          · rw [if_pos hde] at q4; exact absurd q4 (by decide)
          · rw [if_neg hde] at q4
            rw [rl.2.1 11 (by decide) (by decide) (by decide) (by decide) (by decide)] at q3
            have := hWF.2.2.2.2.1 d k q1 hk q4 q3
            rw [h6, nI_eq (by omega) (by omega)] at this
            exact absurd this.symm hde
      have hR1' : Rest c (o.1, fun j => if j < 2000 then o.2 j else if j = 2000 + k then 1 else 0) es n Q z W σ1 s1 := hR1.setV (fun j hj => by simp [hj]) (fun j hj => by
        have hj : (if 2000 + j < 2000 then o.2 (2000 + j) else if 2000 + j = 2000 + k then 1 else 0) = (1 : Int32) := hj
        rw [if_neg (by omega)] at hj
        by_cases hjk : j = k
        · rw [hjk]; exact hno1
        · rw [if_neg (by omega)] at hj; exact absurd hj (by decide))
      obtain ⟨x1, σ3, σ2, s2, L2, W2, t2, f4, sk3, f5, f6, ht2, hS2⟩ := addTask (N := N) (B := B + 30000) (b := b) (m := m) (σ0 := σ) (s0 := s) (e := e) (kd := 2) hb hN hR1' hI1 ((hRR.ml rl).le (by omega)) (hN0.ml (by decide) ml rl) (hN1.ml (by decide) ml rl) hT (Nat.le_refl _) (fun _ _ => rfl) ht
        (by rw [ml.2.2.2.2.1 9 _ _ (by decide) (Or.inl (by decide))])
        (by rw [ml.2.2.2.2.2 _ (by omega) (by omega) (by omega) (by omega)])
        (by rw [ml.2.2.2.2.2 _ (by omega) (by omega) (by omega) (by omega)])
        (rl.1 27 (by decide))
        (rl.2.1 25 (by decide) (by decide) (by decide) (by decide) (by decide))
        (rl.2.1 26 (by decide) (by decide) (by decide) (by decide) (by decide))
        (fun y hy h0 => by
          rw [r20] at h0
          by_cases hye : y = e
          · exact Or.inr ⟨hye, rfl⟩
          · rw [if_neg hye] at h0
            obtain ⟨r, hr, hm'⟩ := hy
            exact Or.inl ⟨h0, hI.lt hr hm'⟩)
        (by decide) hen (fun q => by cases q)
      have hno2 : ga s2 6 k = -1 := hS2.1.2.2.2.2.2.2.2.2.2.2.2.2.2.2.2.2.2.2.2.1 k (by
        show (if 2000 + k < 2000 then o.2 (2000 + k) else if 2000 + k = 2000 + k then 1 else 0) = (1 : Int32)
        rw [if_neg (by omega), if_pos rfl])
      have hS3 : Sim c (o.1, fun j => if j < 2000 then o.2 j else 0) es n Q z W2 L2 (B + 30000) t2 σ2 s2 := hS2.setV (fun j hj => by
        show (if j < 2000 then o.2 j else 0) = if j < 2000 then o.2 j else if j = 2000 + k then 1 else 0
        rw [if_pos hj, if_pos hj]) (fun j hj => by
        have hj : (if 2000 + j < 2000 then o.2 (2000 + j) else 0) = (1 : Int32) := hj
        rw [if_neg (by omega)] at hj; exact absurd hj (by decide))
      obtain ⟨σ', s', V', es', n', L', W', t', g1, g2, ht', hv9, hS⟩ := hS3.fresh hb hN ht2 hk hno2 hnQ (fun j hj => by
        have hj : (if 2000 + j < 2000 then o.2 (2000 + j) else 0) = (1 : Int32) := hj
        rw [if_neg (by omega)] at hj; exact absurd hj (by decide)) (v := v) (x := x) hw1 hw2
      have hseen : seen s k = none := by simp [seen, hm, hov]
      rw [hseen] at hs
      have hiS := hR.isSeen hen hC
      rw [if_pos hov] at hiS
      have fk : f k = some (es e) := by rw [fM k hk, hm]; rfl
      have hm1 := nI_m1 (e := e) (by omega)
      rw [show nI 2 = 2 from rfl] at f4 f6
      refine ⟨σ', s', 0, V', es', n', L', W', t', Or.inl rfl, ?_, ?_, ht', hv9, hS⟩
      · have kk1 := hR1.1
        rcases f5 with ⟨rfl, rfl⟩ | ⟨rfl, f5⟩
        · simp [f_W_store, f_W_store_61, ldR k0, k1, alR fA hik, fk, isO k0, hiS, pb, f1, ldR kk1.1, kk1.2.2.2.2.2.1, isO kk1.2.2.2.2.2.2.2.2.2.2.2.2.2.1, f4, g1]
        · simp [f_W_store, f_W_store_61, ldR k0, k1, alR fA hik, fk, isO k0, hiS, pb, f1, ldR kk1.1, kk1.2.2.2.2.2.1, isO kk1.2.2.2.2.2.2.2.2.2.2.2.2.2.1, f4, isO sk3.1, f5, g1]
      · simp [f_M_lay, f_M_lay_18, isOr hb, hs, pb, oI, ldRr hb, al6, hik, h6, hm1, f2, f6, g2]
    · obtain ⟨σ', s', V', L', W', t', f1, f2, ht', hv9, hS⟩ := (h.le (B' := B + 30000) (by omega)).replace hb hN ht hk hm hov (v := v) (x := x) hw1 hw2
      exact ⟨σ', s', 1, V', es, n, L', W', t', Or.inr rfl, f1, f2, ht', hv9, hS⟩
end ST2
