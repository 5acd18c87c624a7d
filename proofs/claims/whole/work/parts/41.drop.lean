/-! THE LOG; an entry dropped from the map -/
def ML (c : Nat) (σ σ' : Hp) : Prop := hp_N σ' = hp_N σ ∧ (∀ a, hp_C σ' a = hp_C σ a) ∧ (∀ x k a, hp_R σ' x k a = hp_R σ x k a) ∧ (∀ x k a, hp_L σ' x k a = hp_L σ x k a) ∧ (∀ x k a, x ≠ 5 → (x ≠ 3 ∨ k ≠ 7) → hp_I σ' x k a = hp_I σ x k a) ∧ ∀ a, a ≠ c + 1 → a ≠ c + 11 → a ≠ c + 12 → a ≠ c + 13 → hp_A σ' a = hp_A σ a
def RL (s s' : RS) : Prop := (∀ k, k ≠ 45 → gi s' k = gi s k) ∧ (∀ k, k ≠ 6 → k ≠ 20 → k ≠ 46 → k ≠ 47 → k ≠ 48 → ga s' k = ga s k) ∧ (∀ k, gl s' k = gl s k) ∧ ∀ k j, gb s' k j = gb s k j
theorem ML.rf {c : Nat} {σ : Hp} : ML c σ σ := ⟨rfl, fun _ => rfl, fun _ _ _ => rfl, fun _ _ _ => rfl, fun _ _ _ _ _ => rfl, fun _ _ _ _ _ => rfl⟩
theorem RL.rf {s : RS} : RL s s := ⟨fun _ _ => rfl, fun _ _ _ _ _ _ => rfl, fun _ => rfl, fun _ _ => rfl⟩
theorem ML.trans {c : Nat} {σ σ1 σ2 : Hp} (h : ML c σ σ1) (g : ML c σ1 σ2) : ML c σ σ2 := ⟨g.1.trans h.1, fun a => (g.2.1 a).trans (h.2.1 a), fun x k a => (g.2.2.1 x k a).trans (h.2.2.1 x k a), fun x k a => (g.2.2.2.1 x k a).trans (h.2.2.2.1 x k a), fun x k a p q => (g.2.2.2.2.1 x k a p q).trans (h.2.2.2.2.1 x k a p q), fun a p q r t => (g.2.2.2.2.2 a p q r t).trans (h.2.2.2.2.2 a p q r t)⟩
theorem RL.trans {s s1 s2 : RS} (h : RL s s1) (g : RL s1 s2) : RL s s2 := ⟨fun k p => (g.1 k p).trans (h.1 k p), fun k p q r t u => (g.2.1 k p q r t u).trans (h.2.1 k p q r t u), fun k => (g.2.2.1 k).trans (h.2.2.1 k), fun k j => (g.2.2.2 k j).trans (h.2.2.2 k j)⟩
section DR
variable {b σ σ' : Hp} {m c n Q z N B : Nat} {o : Nat × (Nat → Int32)} {es : Nat → Nat} {W : Nat → Int32} {s s' : RS} {L : Nat → List Nat}
theorem Rest.ml (h : Rest c o es n Q z W σ s) (ml : ML c σ σ') (rl : RL s s') (h37 : ∀ e, e < n → hp_I σ' 3 7 (es e) = if ga s' 20 e = 0 then 1 else 0) (hMP : MP σ' c es s') (hLG : LGt σ' c s') (hWF : WFa s' n) (h6m : ∀ k, ga s 6 k = -1 → ga s' 6 k = -1) : Rest c o es n Q z W σ' s' := by
  obtain ⟨h1, h2, h2b, h3, h4, h5, h6, h7, h8, h9, h10, h11⟩ := h
  obtain ⟨m1, m2, m3, m4, m5, m6⟩ := ml
  obtain ⟨r1, r2, r3, r4⟩ := rl
  have I0 : ∀ k a, hp_I σ' 0 k a = hp_I σ 0 k a := fun k a => m5 0 k a (by decide) (Or.inl (by decide))
  have I1 : ∀ k a, hp_I σ' 1 k a = hp_I σ 1 k a := fun k a => m5 1 k a (by decide) (Or.inl (by decide))
  have I2 : ∀ k a, hp_I σ' 2 k a = hp_I σ 2 k a := fun k a => m5 2 k a (by decide) (Or.inl (by decide))
  have I4 : ∀ k a, hp_I σ' 4 k a = hp_I σ 4 k a := fun k a => m5 4 k a (by decide) (Or.inl (by decide))
  have I6 : ∀ k a, hp_I σ' 6 k a = hp_I σ 6 k a := fun k a => m5 6 k a (by decide) (Or.inl (by decide))
  have I8 : ∀ k a, hp_I σ' 8 k a = hp_I σ 8 k a := fun k a => m5 8 k a (by decide) (Or.inl (by decide))
  have I10 : ∀ k a, hp_I σ' 10 k a = hp_I σ 10 k a := fun k a => m5 10 k a (by decide) (Or.inl (by decide))
  have I30 : ∀ a, hp_I σ' 3 0 a = hp_I σ 3 0 a := fun a => m5 3 0 a (by decide) (Or.inr (by decide))
  have I31 : ∀ a, hp_I σ' 3 1 a = hp_I σ 3 1 a := fun a => m5 3 1 a (by decide) (Or.inr (by decide))
  have I33 : ∀ a, hp_I σ' 3 3 a = hp_I σ 3 3 a := fun a => m5 3 3 a (by decide) (Or.inr (by decide))
  have I36 : ∀ a, hp_I σ' 3 6 a = hp_I σ 3 6 a := fun a => m5 3 6 a (by decide) (Or.inr (by decide))
  have g : ∀ k, k ≠ 6 → k ≠ 20 → k ≠ 46 → k ≠ 47 → k ≠ 48 → ga s' k = ga s k := r2
  have a7 := g 7 (by decide) (by decide) (by decide) (by decide) (by decide); have a8 := g 8 (by decide) (by decide) (by decide) (by decide) (by decide); have a9 := g 9 (by decide) (by decide) (by decide) (by decide) (by decide); have a11 := g 11 (by decide) (by decide) (by decide) (by decide) (by decide); have a12 := g 12 (by decide) (by decide) (by decide) (by decide) (by decide); have a14 := g 14 (by decide) (by decide) (by decide) (by decide) (by decide); have a16 := g 16 (by decide) (by decide) (by decide) (by decide) (by decide); have a30 := g 30 (by decide) (by decide) (by decide) (by decide) (by decide); have a31 := g 31 (by decide) (by decide) (by decide) (by decide) (by decide)
  have i1 := r1 1 (by decide); have i2 := r1 2 (by decide); have i3 := r1 3 (by decide); have i4 := r1 4 (by decide); have i29 := r1 29 (by decide); have i28 := r1 28 (by decide); have i32 := r1 32 (by decide); have i33 := r1 33 (by decide); have i34 := r1 34 (by decide); have i35 := r1 35 (by decide); have i36 := r1 36 (by decide); have i37 := r1 37 (by decide); have i38 := r1 38 (by decide); have i39 := r1 39 (by decide); have i40 := r1 40 (by decide); have i41 := r1 41 (by decide); have i42 := r1 42 (by decide); have i43 := r1 43 (by decide); have i44 := r1 44 (by decide)
  obtain ⟨e1, e2, e3⟩ := ends_congr (s := s) (s' := s') (fun e => by rw [a14]) i2 i3 (r4 17) (r4 18)
  refine ⟨?_, ?_, ?_, ?_, hMP, ?_, hLG, ?_, ?_, ?_, hWF, ?_⟩
  · unfold SK at *; simp only [m2, m3]; exact h1
  · unfold SCa at *; simp only [I0, I4, I8, I6, m4, i1, i2, i3, i28, i32, i35, i41, i42, i43, i44, r3]; exact h2
  · unfold SCb at *; simp only [I1, i1, i33, i34, i36, i37, i38, i39, i40]; exact h2b
  · intro e he
    have := h3 e he
    rw [I30, I31, I33, I36, m4, m4, a11, a12, a16, e1, e2, e3, h37 e he]
    exact ⟨this.1, this.2.1, this.2.2.1, rfl, this.2.2.2.2⟩
  · unfold WY WYk at *; rw [m6 (c + 2) (by omega) (by omega) (by omega) (by omega)]; simp only [m1, m2, m3, I10, a7, a8, a9]; exact h5
  · unfold CTT at *; rw [m6 (c + 16) (by omega) (by omega) (by omega) (by omega)]; simp only [m2, m3, I2, i4, i29, a30, a31]; exact h7
  · unfold Out at *; rw [m6 o.1 (by omega) (by omega) (by omega) (by omega)]; exact h8
  · unfold AD at *; rw [m1]; exact h9
  · obtain ⟨u1, u2, u3, u4, u5, u6, u7, u8, u9, u10⟩ := h11
    refine ⟨by rw [r3]; exact u1, ?_, by rw [i36]; exact u3, by rw [i2]; exact u4, by rw [i3]; exact u5, u6, u7, by rw [a12]; exact u8, fun k hk => h6m k (u9 k hk), (r1 0 (by decide)).trans u10⟩
    simp only [i1, i32, i33, i34, i39, i40]; exact u2
theorem RI.ml {wt : Nat → Int32} (h : RI σ c es n wt L) (ml : ML c σ σ') : RI σ' c es n wt L := by
  obtain ⟨m1, m2, m3, m4, m5, m6⟩ := ml
  have I7 : ∀ k a, hp_I σ' 7 k a = hp_I σ 7 k a := fun k a => m5 7 k a (by decide) (Or.inl (by decide))
  have I32 : ∀ a, hp_I σ' 3 2 a = hp_I σ 3 2 a := fun a => m5 3 2 a (by decide) (Or.inr (by decide))
  obtain ⟨h1, h2, h3, h4, h5, h6, h7⟩ := h
  refine ⟨?_, fun r hr => ⟨?_, ?_⟩, h3, h4, fun e he => ?_, fun e he hno => ?_, h7⟩
  · unfold R0 at *; simp only [m2, m3]; exact h1
  · obtain ⟨c1, c2, c3, c4, c5, c6⟩ := (h2 r hr).1
    exact ⟨by rw [m2]; exact c1, by rw [m3]; exact c2, by rw [m3]; exact c3, by rw [I7]; exact c4, seg_congr (fun b _ => ⟨m2 b, m3 _ _ _, m3 _ _ _, m3 _ _ _⟩) c5, c6⟩
  · rw [I7]; exact (h2 r hr).2
  · rw [m2, I32]; exact h5 e he
  · rw [m3]; exact h6 e he hno
theorem RR.ml (h : RR s n L B) (r : RL s s') : RR s' n L B := by
  unfold RR at *
  simp only [r.1 10 (by decide), r.2.1 15 (by decide) (by decide) (by decide) (by decide) (by decide), r.2.2.1, r.2.2.2]
  exact h
theorem Nt.ml {d i : Nat} (h : Nt c es n σ s d i) (hd : d < 2) (ml : ML c σ σ') (r : RL s s') : Nt c es n σ' s' d i := by
  unfold Nt at *
  rw [ml.2.2.2.2.2 (c + 4 + 2 * d) (by omega) (by omega) (by omega) (by omega)]
  simp only [ml.2.2.2.2.1 6 _ _ (by decide) (Or.inl (by decide)), r.2.1 24 (by decide) (by decide) (by decide) (by decide) (by decide), r.2.1 23 (by decide) (by decide) (by decide) (by decide) (by decide)]
  exact h
/-! writing into the log -/
def logC (σ : Hp) (c t : Nat) (fk fv fw : Nat → Int32) (k v w : Int32) : Hp := if t < 500 then up_I (up_A (up_A (up_A σ (c + 11) (0, 500, .inl (va_up fk t k))) (c + 12) (0, 500, .inl (va_up fv t v))) (c + 13) (0, 500, .inl (va_up fw t w))) 5 3 (c + 10) (nI t + 1) else σ
def logS (s : RS) (t : Nat) (k v w : Int32) : RS := if t < 500 then ui (ua (ua (ua s 46 t k) 47 t v) 48 t w) 45 (nI t + 1) else s
theorem logC_ml {t : Nat} {fk fv fw : Nat → Int32} {k v w : Int32} : ML c σ (logC σ c t fk fv fw k v w) := by
  unfold logC
  split
  · refine ⟨rfl, fun _ => rfl, fun _ _ _ => rfl, fun _ _ _ => rfl, fun x k a h _ => ?_, fun a h1 h2 h3 h4 => ?_⟩
    · simp only [hI_I, hI_A]; rw [if_neg (fun z => h z.1)]
    · simp only [hA_I, hA_A]; rw [if_neg h4, if_neg h3, if_neg h2]
  · exact ML.rf
theorem logS_rl {t : Nat} {k v w : Int32} : RL s (logS s t k v w) := by
  unfold logS
  split
  · refine ⟨fun k hk => ?_, fun k h1 h2 h3 h4 h5 => funext fun j => ?_, fun _ => rfl, fun _ _ => rfl⟩
    · simp [giui, giul, giua, giub, glui, glul, glua, glub, gaui, gaul, gaua, gaub, gbui, gbul, gbua, gbub, hk]
    · simp [giui, giul, giua, giub, glui, glul, glua, glub, gaui, gaul, gaua, gaub, gbui, gbul, gbua, gbub, h3, h4, h5]
  · exact RL.rf
theorem logS_6 {t : Nat} {k v w : Int32} : ga (logS s t k v w) 6 = ga s 6 ∧ ga (logS s t k v w) 20 = ga s 20 := by
  unfold logS
  split
  · exact ⟨funext fun j => by simp [giui, giul, giua, giub, glui, glul, glua, glub, gaui, gaul, gaua, gaub, gbui, gbul, gbua, gbub], funext fun j => by simp [giui, giul, giua, giub, glui, glul, glua, glub, gaui, gaul, gaua, gaub, gbui, gbul, gbua, gbub]⟩
  · exact ⟨rfl, rfl⟩
theorem log_run (hC : hp_C σ (c + 10) = some 5) (hr0 : hp_R σ 5 0 (c + 10) = some (c + 11)) (hr1 : hp_R σ 5 1 (c + 10) = some (c + 12)) (hr2 : hp_R σ 5 2 (c + 10) = some (c + 13)) {a t : Nat} (ha : hp_C σ a = some 3) (ht : t ≤ 500) (h3 : hp_I σ 5 3 (c + 10) = nI t) {fk fv fw : Nat → Int32} (hk : hp_A σ (c + 11) = some (0, 500, .inl fk)) (hv : hp_A σ (c + 12) = some (0, 500, .inl fv)) (hw : hp_A σ (c + 13) = some (0, 500, .inl fw)) (w : Int32) : f_Lo_add (some (c + 10)) (some a) w σ = some (logC σ c t fk fv fw (hp_I σ 3 0 a) (hp_I σ 3 1 a) w) := by
  by_cases hlt : t < 500
  · have hl : ¬ (500 : Int32) ≤ nI t := nI_ge (b := 500) hlt (by decide)
    have hi : ix_ (nI t) 500 = some t := ixN hlt (by decide)
    simp [f_Lo_add, ldI, ldR, stI, hC, hr0, hr1, hr2, ha, h3, hl, hC_A, hI_A, hR_A, asI hk hi, asI (σ := up_A σ (c + 11) (0, 500, .inl (va_up fk t (hp_I σ 3 0 a)))) (a := c + 12) (f := fv) (by rw [hA_A, if_neg (by omega)]; exact hv) hi, asI (σ := up_A (up_A σ (c + 11) (0, 500, .inl (va_up fk t (hp_I σ 3 0 a)))) (c + 12) (0, 500, .inl (va_up fv t (hp_I σ 3 1 a)))) (a := c + 13) (f := fw) (by rw [hA_A, if_neg (by omega), hA_A, if_neg (by omega)]; exact hw) hi, logC, hlt]
  · have : t = 500 := by omega
    subst this
    have hl : (500 : Int32) ≤ nI 500 := by decide
    simp [f_Lo_add, ldI, hC, h3, hl, logC]
theorem hear_run (hb : hp_C b m = some 11) {e t : Nat} (he : e < 1100) (ht : t ≤ 500) (h45 : gi s 45 = nI t) (w : Int32) : f_M_hear (some m) (nI e) w (rh b m s) = some (rh b m (logS s t (ga s 11 e) (ga s 12 e) w)) := by
  have hie : ix_ (nI e) 1100 = some e := ixN he (by decide)
  by_cases hlt : t < 500
  · have hl : ¬ (500 : Int32) ≤ nI t := nI_ge (b := 500) hlt (by decide)
    have hi : ix_ (nI t) 500 = some t := ixN hlt (by decide)
    simp [f_M_hear, ldIr hb, ldRr hb, stIr hb, h45, hl, al11, al12, as46, as47, as48, hie, hi, giui, giul, giua, giub, glui, glul, glua, glub, gaui, gaul, gaua, gaub, gbui, gbul, gbua, gbub, logS, hlt]
  · have : t = 500 := by omega
    subst this
    have hl : (500 : Int32) ≤ nI 500 := by decide
    simp [f_M_hear, ldIr hb, h45, hl, logS]
theorem LGt.log (h : LGt σ c s) {t : Nat} (h45 : gi s 45 = nI t) (ht : t ≤ 500) {k v w : Int32} : LGt (logC σ c t (ga s 46) (ga s 47) (ga s 48) k v w) c (logS s t k v w) := by
  obtain ⟨h1, -, h3, h4, h5⟩ := h
  unfold logC logS
  by_cases hlt : t < 500
  · rw [if_pos hlt, if_pos hlt]
    refine ⟨by simp [hI_I, giui, giul, giua, giub, glui, glul, glua, glub, gaui, gaul, gaua, gaub, gbui, gbul, gbua, gbub], ⟨t + 1, by omega, by simp [giui, giul, giua, giub, glui, glul, glua, glub, gaui, gaul, gaua, gaub, gbui, gbul, gbua, gbub, nI_1]⟩, ?_, ?_, ?_⟩
    · simp only [hA_I, hA_A]; rw [if_neg (by omega), if_neg (by omega), if_pos trivial]
      congr 4
      funext j; simp [va_up, giui, giul, giua, giub, glui, glul, glua, glub, gaui, gaul, gaua, gaub, gbui, gbul, gbua, gbub]
    · simp only [hA_I, hA_A]; rw [if_neg (by omega), if_pos trivial]
      congr 4
      funext j; simp [va_up, giui, giul, giua, giub, glui, glul, glua, glub, gaui, gaul, gaua, gaub, gbui, gbul, gbua, gbub]
    · simp only [hA_I, hA_A]; rw [if_pos trivial]
      congr 4
      funext j; simp [va_up, giui, giul, giua, giub, glui, glul, glua, glub, gaui, gaul, gaua, gaub, gbui, gbul, gbua, gbub]
  · rw [if_neg hlt, if_neg hlt]
    exact ⟨h1, ⟨t, ht, h45⟩, h3, h4, h5⟩
theorem Rest.hear (hb : hp_C b m = some 11) (h : Rest c o es n Q z W σ s) {e : Nat} (he : e < n) (hn : n ≤ 600) (hC : hp_C σ (es e) = some 3) (w : Int32) : ∃ σ' s', f_Lo_add (some (c + 10)) (some (es e)) w σ = some σ' ∧ f_M_hear (some m) (nI e) w (rh b m s) = some (rh b m s') ∧ Rest c o es n Q z W σ' s' ∧ ML c σ σ' ∧ RL s s' ∧ ga s' 6 = ga s 6 ∧ ga s' 20 = ga s 20 := by
  obtain ⟨h1, h2, h2b, h3, h4, h5, h6, h7, h8, h9, h10, h11⟩ := id h
  obtain ⟨g1, ⟨t, ht, h45⟩, g3, g4, g5⟩ := id h6
  obtain ⟨k0, k1, k2, k3, k4, k5, k6, k7, k8, k9, k10, k11, k12, k13, k14, k15, k16, k17, k18, k19, k20, k21, k22, k23⟩ := id h1
  have hE := h3 e he
  have f1 := log_run k14 k21 k22 k23 hC ht (by rw [g1, h45]) g3 g4 g5 w
  have f2 := hear_run (b := b) (m := m) (s := s) hb (e := e) (by omega) ht h45 w
  rw [hE.1, hE.2.1] at f1
  have ml := logC_ml (σ := σ) (c := c) (t := t) (fk := ga s 46) (fv := ga s 47) (fw := ga s 48) (k := ga s 11 e) (v := ga s 12 e) (w := w)
  have rl := logS_rl (s := s) (t := t) (k := ga s 11 e) (v := ga s 12 e) (w := w)
  obtain ⟨q6, q20⟩ := logS_6 (s := s) (t := t) (k := ga s 11 e) (v := ga s 12 e) (w := w)
  refine ⟨_, _, f1, f2, h.ml ml rl (fun d hd => ?_) ?_ (h6.log h45 ht) ?_ (fun k hk => by rw [q6]; exact hk), ml, rl, q6, q20⟩
  · rw [q20]
    have : hp_I (logC σ c t (ga s 46) (ga s 47) (ga s 48) (ga s 11 e) (ga s 12 e) w) 3 7 (es d) = hp_I σ 3 7 (es d) := by
      unfold logC; split
      · simp [hI_I, hI_A]
      · rfl
    rw [this]; exact (h3 d hd).2.2.2.1
  · have : hp_A (logC σ c t (ga s 46) (ga s 47) (ga s 48) (ga s 11 e) (ga s 12 e) w) (c + 1) = hp_A σ (c + 1) := by
      unfold logC; split
      · simp [hA_I, hA_A]
      · rfl
    unfold MP mpo at *
    rw [this, q6]; exact h4
  · unfold WFa at *
    obtain ⟨e1, e2, e3⟩ := ends_congr (s := s) (s' := logS s t (ga s 11 e) (ga s 12 e) w) (fun d => by rw [rl.2.1 14 (by decide) (by decide) (by decide) (by decide) (by decide)]) (rl.1 2 (by decide)) (rl.1 3 (by decide)) (rl.2.2.2 17) (rl.2.2.2 18)
    simp only [q6, q20, rl.2.1 11 (by decide) (by decide) (by decide) (by decide) (by decide), rl.2.1 13 (by decide) (by decide) (by decide) (by decide) (by decide), e1]
    exact h10
theorem Rest.drop (hb : hp_C b m = some 11) (h : Rest c o es n Q z W σ s) {e : Nat} (he : e < n) (hn : n ≤ 600) (hC : hp_C σ (es e) = some 3) (hinj : ∀ d, d < n → es d = es e → d = e) (hth : ga s 20 e = 1) (w : Int32) : ∃ σ' s', f_W_dropFromMap (some c) (some (es e)) w σ = some σ' ∧ f_M_drop (some m) (nI e) w (rh b m s) = some (rh b m s') ∧ Rest c o es n Q z W σ' s' ∧ ML c σ σ' ∧ RL s s' ∧ ∀ d, ga s' 20 d = if d = e then 0 else ga s 20 d := by
  obtain ⟨h1, h2, h2b, h3, h4, h5, h6, h7, h8, h9, h10, h11⟩ := id h
  obtain ⟨g1, ⟨t, ht, h45⟩, g3, g4, g5⟩ := id h6
  obtain ⟨k0, k1, k2, k3, k4, k5, k6, k7, k8, k9, k10, k11, k12, k13, k14, k15, k16, k17, k18, k19, k20, k21, k22, k23⟩ := id h1
  obtain ⟨w1, w2, w3, w4, w5, w6⟩ := id h10
  obtain ⟨f, fA, fM⟩ := id h4
  have hE := h3 e he
  obtain ⟨k, hk, hkey⟩ := w1 e he
  have h6k := w5 e k he hk hth hkey
  have hik : ix_ (nI k) 1000 = some k := ixN hk (by decide)
  have hie : ix_ (nI e) 1100 = some e := ixN (by omega) (by decide)
  -- the class
  let σ1 := up_I (up_A σ (c + 1) (3, 1000, .inr (.inr (.inr (.inr (va_up f k none)))))) 3 7 (es e) 1
  have hC1 : hp_C σ1 (es e) = some 3 := hC
  have f1 : f_Lo_add (some (c + 10)) (some (es e)) w σ1 = some (logC σ1 c t (ga s 46) (ga s 47) (ga s 48) (hp_I σ1 3 0 (es e)) (hp_I σ1 3 1 (es e)) w) := log_run (σ := σ1) k14 k21 k22 k23 hC1 ht (by show hp_I σ1 5 3 (c + 10) = _; simp only [σ1, hI_I, hI_A]; rw [if_neg (by simp)]; rw [g1, h45]) (by simp only [σ1, hA_I, hA_A]; rw [if_neg (by omega)]; exact g3) (by simp only [σ1, hA_I, hA_A]; rw [if_neg (by omega)]; exact g4) (by simp only [σ1, hA_I, hA_A]; rw [if_neg (by omega)]; exact g5) w
  have e0 : hp_I σ1 3 0 (es e) = ga s 11 e := by simp only [σ1, hI_I, hI_A]; rw [if_neg (by simp)]; exact hE.1
  have e1 : hp_I σ1 3 1 (es e) = ga s 12 e := by simp only [σ1, hI_I, hI_A]; rw [if_neg (by simp)]; exact hE.2.1
  rw [e0, e1] at f1
  have f2 := hear_run (b := b) (m := m) (s := s) hb (e := e) (by omega) ht h45 w
  have ml := logC_ml (σ := σ1) (c := c) (t := t) (fk := ga s 46) (fv := ga s 47) (fw := ga s 48) (k := ga s 11 e) (v := ga s 12 e) (w := w)
  have rl := logS_rl (s := s) (t := t) (k := ga s 11 e) (v := ga s 12 e) (w := w)
  obtain ⟨q6, q20⟩ := logS_6 (s := s) (t := t) (k := ga s 11 e) (v := ga s 12 e) (w := w)
  have mlA : ML c σ σ1 := ⟨rfl, fun _ => rfl, fun _ _ _ => rfl, fun _ _ _ => rfl, fun x j a p q => by simp only [σ1, hI_I, hI_A]; rw [if_neg (by omega)], fun a p _ _ _ => by simp only [σ1, hA_I, hA_A]; rw [if_neg p]⟩
  generalize hs1 : logS s t (ga s 11 e) (ga s 12 e) w = s1 at *
  have rlB : RL s1 (ua (ua s1 20 e 0) 6 k (-1)) := ⟨fun _ _ => rfl, fun x p q _ _ _ => funext fun j => by simp [giui, giul, giua, giub, glui, glul, glua, glub, gaui, gaul, gaua, gaub, gbui, gbul, gbua, gbub, p, q], fun _ => rfl, fun _ _ => rfl⟩
  have hth' : ∀ d, ga (ua (ua s1 20 e 0) 6 k (-1)) 20 d = if d = e then 0 else ga s 20 d := by
    intro d; simp [giui, giul, giua, giub, glui, glul, glua, glub, gaui, gaul, gaua, gaub, gbui, gbul, gbua, gbub, q20]
  have h6' : ∀ d, ga (ua (ua s1 20 e 0) 6 k (-1)) 6 d = if d = k then -1 else ga s 6 d := by
    intro d; simp [giui, giul, giua, giub, glui, glul, glua, glub, gaui, gaul, gaua, gaub, gbui, gbul, gbua, gbub, q6]
  have h11' : ga (ua (ua s1 20 e 0) 6 k (-1)) 11 = ga s 11 := by rw [rlB.2.1 11 (by decide) (by decide) (by decide) (by decide) (by decide), rl.2.1 11 (by decide) (by decide) (by decide) (by decide) (by decide)]
  have h13' : ga (ua (ua s1 20 e 0) 6 k (-1)) 13 = ga s 13 := by rw [rlB.2.1 13 (by decide) (by decide) (by decide) (by decide) (by decide), rl.2.1 13 (by decide) (by decide) (by decide) (by decide) (by decide)]
  have rl2 := rl.trans rlB
  obtain ⟨c1, c2, c3⟩ := ends_congr (s := s) (s' := ua (ua s1 20 e 0) 6 k (-1)) (fun d => by rw [rl2.2.1 14 (by decide) (by decide) (by decide) (by decide) (by decide)]) (rl2.1 2 (by decide)) (rl2.1 3 (by decide)) (rl2.2.2.2 17) (rl2.2.2.2 18)
  have hkk : hp_I σ 3 0 (es e) = nI k := hE.1.trans hkey
  refine ⟨logC σ1 c t (ga s 46) (ga s 47) (ga s 48) (ga s 11 e) (ga s 12 e) w, ua (ua s1 20 e 0) 6 k (-1), ?_, ?_, h.ml (mlA.trans ml) rl2 (fun d hd => ?_) ?_ ?_ ?_ (fun j hj => by rw [h6', hj]; split <;> rfl), mlA.trans ml, rl2, hth'⟩
  · simp only [f_W_dropFromMap, ldR k0, k1, ldI hC, hkk, Option.bind_some, asR0 fA hik]
    rw [stZ1 (σ := up_A σ (c + 1) (3, 1000, .inr (.inr (.inr (.inr (va_up f k none)))))) hC]
    simp only [Option.bind_some]
    rw [ldR (σ := σ1) k0]
    simp only [Option.bind_some]
    rw [show hp_R σ1 0 5 c = some (c + 10) from k6, isO (σ := σ1) k14]
    simp only [Option.bind_some]
    rw [f1]
    rfl
  · have h11s : ga s1 11 = ga s 11 := rl.2.1 11 (by decide) (by decide) (by decide) (by decide) (by decide)
    simp [f_M_drop, isOr hb, f2, ldRr hb, as20z0, hie, al11, giui, giul, giua, giub, glui, glul, glua, glub, gaui, gaul, gaua, gaub, gbui, gbul, gbua, gbub, h11s, hkey, as6, hik]
  · rw [hth']
    have e2 : hp_I (logC σ1 c t (ga s 46) (ga s 47) (ga s 48) (ga s 11 e) (ga s 12 e) w) 3 7 (es d) = hp_I σ1 3 7 (es d) := by
      unfold logC; split
      · simp [hI_I, hI_A]
      · rfl
    rw [e2]
    simp only [σ1, hI_I, hI_A]
    by_cases hde : d = e
    · subst hde; simp
    · have : ¬ es d = es e := fun z => hde (hinj d hd z)
      simp only [this, hde, and_false, if_false]
      exact (h3 d hd).2.2.2.1
  · refine ⟨va_up f k none, ?_, fun d hd => ?_⟩
    · have : hp_A (logC σ1 c t (ga s 46) (ga s 47) (ga s 48) (ga s 11 e) (ga s 12 e) w) (c + 1) = hp_A σ1 (c + 1) := by
        unfold logC; split
        · simp [hA_I, hA_A]
        · rfl
      rw [this]; simp [σ1, hA_I, hA_A]
    · unfold va_up mpo
      rw [h6']
      by_cases hdk : d = k
      · simp [hdk]
      · simp only [hdk, if_false]; exact fM d hd
  · have hl1 : LGt σ1 c s := ⟨by show hp_I σ1 5 3 (c + 10) = _; simp only [σ1, hI_I, hI_A]; rw [if_neg (by simp)]; exact g1, ⟨t, ht, h45⟩, by simp only [σ1, hA_I, hA_A]; rw [if_neg (by omega)]; exact g3, by simp only [σ1, hA_I, hA_A]; rw [if_neg (by omega)]; exact g4, by simp only [σ1, hA_I, hA_A]; rw [if_neg (by omega)]; exact g5⟩
    have := hl1.log h45 ht (k := ga s 11 e) (v := ga s 12 e) (w := w)
    rw [hs1] at this
    unfold LGt at *
    have z46 : ga (ua (ua s1 20 e 0) 6 k (-1)) 46 = ga s1 46 := funext fun j => by simp [giui, giul, giua, giub, glui, glul, glua, glub, gaui, gaul, gaua, gaub, gbui, gbul, gbua, gbub]
    have z47 : ga (ua (ua s1 20 e 0) 6 k (-1)) 47 = ga s1 47 := funext fun j => by simp [giui, giul, giua, giub, glui, glul, glua, glub, gaui, gaul, gaua, gaub, gbui, gbul, gbua, gbub]
    have z48 : ga (ua (ua s1 20 e 0) 6 k (-1)) 48 = ga s1 48 := funext fun j => by simp [giui, giul, giua, giub, glui, glul, glua, glub, gaui, gaul, gaua, gaub, gbui, gbul, gbua, gbub]
    rw [z46, z47, z48]
    exact this
  · refine ⟨by rw [h11']; exact w1, by rw [h13']; exact w2, fun d hd => ?_, fun d hd => ?_, fun d j hd hj hd1 hdj => ?_, fun d hd => by rw [c1]; exact w6 d hd⟩
    · rw [h6']
      by_cases hdk : d = k
      · simp [hdk]
      · rw [if_neg hdk]
        rcases w3 d hd with z | ⟨x, x1, x2, x3, x4⟩
        · exact Or.inl z
        · refine Or.inr ⟨x, x1, x2, by rw [h11']; exact x3, ?_⟩
          rw [hth', if_neg]; exact x4
          intro z; subst z
          rw [hkey, nI_eq (by omega) (by omega)] at x3
          exact hdk x3.symm
    · rw [hth']
      by_cases hde : d = e
      · simp [hde]
      · rw [if_neg hde]; exact w4 d hd
    · rw [hth'] at hd1
      by_cases hde : d = e
      · simp [hde] at hd1
      · rw [if_neg hde] at hd1
        rw [h11'] at hdj
        have := w5 d j hd hj hd1 hdj
        rw [h6']
        by_cases hjk : j = k
        · subst hjk
          rw [h6k, nI_eq (by omega) (by omega)] at this
          exact absurd this.symm hde
        · rw [if_neg hjk]; exact this
end DR
