/-! AN ENTRY FILLED, both sides -/
section FL
variable {b σ σ' : Hp} {m c n Q z N B B' t : Nat} {o : Nat × (Nat → Int32)} {es : Nat → Nat} {W : Nat → Int32} {s s' : RS} {L L' : Nat → List Nat} {wt : Nat → Int32}
theorem lay_ga {e : Nat} {v w x : Int32} {k : Nat} (h : k ≠ 12 ∧ k ≠ 13 ∧ k ≠ 14 ∧ k ≠ 16) (j : Nat) : ga (layS s e v w x) k j = ga s k j := by
  simp [layS, giui, giul, giua, giub, glui, glul, glua, glub, gaui, gaul, gaua, gaub, gbui, gbul, gbua, gbub, h.1, h.2.1, h.2.2.1, h.2.2.2]
theorem lay_gb {e : Nat} {v w x : Int32} {k : Nat} (h : k ≠ 17 ∧ k ≠ 18) (j : Nat) : gb (layS s e v w x) k j = gb s k j := by
  simp [layS, giui, giul, giua, giub, glui, glul, glua, glub, gaui, gaul, gaua, gaub, gbui, gbul, gbua, gbub, h.1, h.2]
theorem lay_gbn {e : Nat} {v w x : Int32} {k j : Nat} (h : j ≠ e) : gb (layS s e v w x) k j = gb s k j := by
  simp [layS, giui, giul, giua, giub, glui, glul, glua, glub, gaui, gaul, gaua, gaub, gbui, gbul, gbua, gbub, h]
theorem lay_gan {e : Nat} {v w x : Int32} {k j : Nat} (h : j ≠ e) : ga (layS s e v w x) k j = ga s k j := by
  simp [layS, giui, giul, giua, giub, glui, glul, glua, glub, gaui, gaul, gaua, gaub, gbui, gbul, gbua, gbub, h]
theorem lay_fe {e : Nat} {v w x : Int32} {d : Nat} (h : d ≠ e) : fe (layS s e v w x) d = fe s d ∧ lbt (layS s e v w x) d = lbt s d ∧ en (layS s e v w x) d = en s d := by
  have h1 : fe (layS s e v w x) d = fe s d := by unfold fe; rw [lay_gan h, lay_gbn h]; rfl
  have h2 : lbt (layS s e v w x) d = lbt s d := by unfold lbt; rw [lay_gan h]; rfl
  refine ⟨h1, h2, ?_⟩
  unfold en; rw [h1, h2, lay_gbn h]; rfl
theorem lay_fee {e : Nat} {v w x : Int32} : fe (layS s e v w x) e = (if 0 < x then gl s 5 + x.toInt64 else if 0 < gi s 2 then gl s 5 + (gi s 2).toInt64 else 4611686018427387904) ∧ lbt (layS s e v w x) e = (if 0 < x then 0 else if 0 < gi s 3 then 1 else 0) ∧ gb (layS s e v w x) 18 e = gl s 5 := by
  have h1 : ga (layS s e v w x) 14 e = x := by simp [layS, giui, giul, giua, giub, glui, glul, glua, glub, gaui, gaul, gaua, gaub, gbui, gbul, gbua, gbub]
  have h2 : gb (layS s e v w x) 17 e = gl s 5 := by simp [layS, giui, giul, giua, giub, glui, glul, glua, glub, gaui, gaul, gaua, gaub, gbui, gbul, gbua, gbub]
  have h3 : gb (layS s e v w x) 18 e = gl s 5 := by simp [layS, giui, giul, giua, giub, glui, glul, glua, glub, gaui, gaul, gaua, gaub, gbui, gbul, gbua, gbub]
  refine ⟨?_, ?_, h3⟩
  · unfold fe; rw [h1, h2]; rfl
  · unfold lbt; rw [h1]; rfl
theorem fill_pre (hI : RI σ c es n wt L) {e : Nat} (he : e < n) {v w x : Int32} : ∃ σx, f_W_fill (some c) (some (es e)) v w x σ = f_W_fill_25 (some c) (some (es e)) v w x σx ∧ hp_N σx = hp_N σ ∧ (∀ a, hp_C σx a = hp_C σ a) ∧ (∀ y k a, hp_R σx y k a = hp_R σ y k a) ∧ (∀ y k a, hp_L σx y k a = hp_L σ y k a) ∧ (∀ a, hp_A σx a = hp_A σ a) ∧ (∀ y k a, (y ≠ 7 ∨ k ≠ 2) → hp_I σx y k a = hp_I σ y k a) ∧ ∀ r, in3 r → hp_I σx 7 2 (rA c r) = if e ∈ L r then hp_I σ 7 2 (rA c r) + (w - wt e) else hp_I σ 7 2 (rA c r) := by
  have hC := hI.c3 he
  by_cases hm : ∃ q, in3 q ∧ e ∈ L q
  · obtain ⟨q, hq, hm⟩ := hm
    have hr := hI.inR hq hm
    have hwe := (hI.2.2.2.2.1 e he).2
    refine ⟨up_I σ 7 2 (rA c q) (hp_I σ 7 2 (rA c q) + (w - wt e)), ?_, rfl, fun _ => rfl, fun _ _ _ => rfl, fun _ _ _ => rfl, fun _ => rfl, fun y k a h => by rw [hI_I, if_neg (by omega)], fun r hr' => ?_⟩
    · simp [f_W_fill, ldR hC, hr, ldI (hI.c7 hq), ldI hC, hwe, stI (hI.c7 hq)]
    · by_cases hrq : r = q
      · subst hrq; rw [if_pos hm, hI_I, if_pos (by simp)]
      · have h1 : e ∉ L r := fun z => hI.2.2.1 q r hq hr' (Ne.symm hrq) e hm z
        have h2 : rA c r ≠ rA c q := rA_ne hrq
        rw [if_neg h1, hI_I, if_neg (fun z => h2 z.2.2)]
  · have hno : ∀ r, in3 r → e ∉ L r := fun r hr z => hm ⟨r, hr, z⟩
    have h8 := hI.2.2.2.2.2.1 e he hno
    refine ⟨σ, ?_, rfl, fun _ => rfl, fun _ _ _ => rfl, fun _ _ _ => rfl, fun _ => rfl, fun _ _ _ _ => rfl, fun r hr => by rw [if_neg (hno r hr)]⟩
    simp [f_W_fill, ldR hC, h8]
theorem eF_ok {e : Nat} {v w x wr : Int32} (q6 : posI wr = gi s 2) : (if 0 < x then gl s 5 + x.toInt64 else if 0 < wr then gl s 5 + wr.toInt64 else 4611686018427387904) = fe (layS s e v w x) e := by
  rw [lay_fee.1, ← q6]
  by_cases hx : 0 < x
  · simp only [hx, if_true]
  · by_cases hw : 0 < wr
    · have := posI_lt.mpr hw
      simp only [hx, hw, this, if_true, if_false, posI_eq hw]
    · have : ¬ 0 < posI wr := fun q => hw (posI_lt.mp q)
      simp only [hx, hw, this, if_false]
theorem eL_ok {e : Nat} {v w x tc : Int32} (q7 : posI tc = gi s 3) : (if 0 < x then (0 : Int32) else if 0 < tc then 1 else 0) = lbt (layS s e v w x) e := by
  rw [lay_fee.2.1, ← q7]
  by_cases hx : 0 < x
  · simp only [hx, if_true]
  · by_cases hw : 0 < tc
    · have := posI_lt.mpr hw
      simp only [hx, hw, this, if_true, if_false]
    · have : ¬ 0 < posI tc := fun q => hw (posI_lt.mp q)
      simp only [hx, hw, this, if_false]
theorem eE_ok {e : Nat} {v w x tc : Int32} (q7 : posI tc = gi s 3) : (if lbt (layS s e v w x) e = 0 then fe (layS s e v w x) e else lmin_ (fe (layS s e v w x) e) (gl s 5 + tc.toInt64)) = en (layS s e v w x) e := by
  unfold en
  rw [lay_fee.2.2]
  by_cases hl : lbt (layS s e v w x) e = 0
  · simp only [hl, if_true]
  · have : gi (layS s e v w x) 3 = tc := by
      show gi s 3 = tc
      rw [← q7]
      refine posI_eq ?_
      rw [lay_fee.2.1, ← q7] at hl
      by_cases hx : 0 < x
      · simp only [hx, if_true, not_true] at hl
      · by_cases ht : 0 < posI tc
        · exact posI_lt.mp ht
        · simp only [hx, ht, if_false, not_true] at hl
    simp only [hl, if_false, this]
theorem begin_lay {a e : Nat} {v w x wr tc : Int32} (ha : hp_C σ a = some 3) (hl : hp_C σ (c + 14) = some 4) (h0 : hp_I σ 4 0 (c + 14) = wr) (h1 : hp_I σ 4 1 (c + 14) = tc) (h2 : hp_L σ 4 2 (c + 14) = gl s 5) (q6 : posI wr = gi s 2) (q7 : posI tc = gi s 3) : f_Li_begin (some (c + 14)) (some a) x σ = some (begH σ a (fe (layS s e v w x) e) (lbt (layS s e v w x) e) (en (layS s e v w x) e)) := by
  rw [begin_run ha hl h0 h1 h2, eF_ok (e := e) (v := v) (w := w) q6, eL_ok (e := e) (v := v) (w := w) q7, eE_ok q7]
/-- the filled entry in the class's world -/
def filH (σ : Hp) (a : Nat) (v w p : Int32) (F : Int64) (l : Int32) (E : Int64) : Hp := begH (up_I (up_I (up_I σ 3 1 a v) 3 2 a w) 3 3 a p) a F l E
section FH
variable {a d : Nat} {v w p l : Int32} {F E : Int64}
theorem fH_I {y k x : Nat} (h : y ≠ 3 ∨ x ≠ a) : hp_I (filH σ a v w p F l E) y k x = hp_I σ y k x := by
  unfold filH begH
  rw [hI_L, hI_I, if_neg (by omega), hI_L, hI_I, if_neg (by omega), hI_I, if_neg (by omega), hI_I, if_neg (by omega)]
theorem fH_Ik {k : Nat} (h : k ≠ 1 ∧ k ≠ 2 ∧ k ≠ 3 ∧ k ≠ 6) : hp_I (filH σ a v w p F l E) 3 k a = hp_I σ 3 k a := by
  unfold filH begH
  rw [hI_L, hI_I, if_neg (by omega), hI_L, hI_I, if_neg (by omega), hI_I, if_neg (by omega), hI_I, if_neg (by omega)]
theorem fH_1 : hp_I (filH σ a v w p F l E) 3 1 a = v := by
  unfold filH begH
  rw [hI_L, hI_I, if_neg (by omega), hI_L, hI_I, if_neg (by omega), hI_I, if_neg (by omega), hI_I, if_pos ⟨rfl, rfl, rfl⟩]
theorem fH_2 : hp_I (filH σ a v w p F l E) 3 2 a = w := by
  unfold filH begH
  rw [hI_L, hI_I, if_neg (by omega), hI_L, hI_I, if_neg (by omega), hI_I, if_pos ⟨rfl, rfl, rfl⟩]
theorem fH_3 : hp_I (filH σ a v w p F l E) 3 3 a = p := by
  unfold filH begH
  rw [hI_L, hI_I, if_neg (by omega), hI_L, hI_I, if_pos ⟨rfl, rfl, rfl⟩]
theorem fH_6 : hp_I (filH σ a v w p F l E) 3 6 a = l := by
  unfold filH begH
  rw [hI_L, hI_I, if_pos ⟨rfl, rfl, rfl⟩]
theorem fH_L {y k x : Nat} (h : y ≠ 3 ∨ x ≠ a) : hp_L (filH σ a v w p F l E) y k x = hp_L σ y k x := by
  unfold filH begH
  rw [hL_L, if_neg (by omega), hL_I, hL_L, if_neg (by omega), hL_I, hL_I, hL_I]
theorem fH_4 : hp_L (filH σ a v w p F l E) 3 4 a = F := by
  unfold filH begH
  rw [hL_L, if_neg (by omega), hL_I, hL_L, if_pos ⟨rfl, rfl, rfl⟩]
theorem fH_5 : hp_L (filH σ a v w p F l E) 3 5 a = E := by
  unfold filH begH
  rw [hL_L, if_pos ⟨rfl, rfl, rfl⟩]
theorem fH_C {x : Nat} : hp_C (filH σ a v w p F l E) x = hp_C σ x := rfl
theorem fH_R {y k x : Nat} : hp_R (filH σ a v w p F l E) y k x = hp_R σ y k x := rfl
theorem fH_A {x : Nat} : hp_A (filH σ a v w p F l E) x = hp_A σ x := rfl
theorem fH_N : hp_N (filH σ a v w p F l E) = hp_N σ := rfl
end FH
theorem fill_ok {e : Nat} (hX : RestX c o es n Q z W σ s e) (hI : RI σ c es n wt L) (hwt : ∀ d, d < n → d ≠ e → wt d = ga s 13 d) (he : e < n) {v x : Int32} {w0 : Nat} (hw1 : 1 ≤ w0) (hw2 : w0 ≤ 1000) : ∃ σ', f_W_fill (some c) (some (es e)) v (nI w0) x σ = some σ' ∧ Rest c (o.1, va_up o.2 e v) es n Q z W σ' (layS s e v (nI w0) x) ∧ RI σ' c es n (ga (layS s e v (nI w0) x) 13) L ∧ MF σ σ' := by
  obtain ⟨h1, h2, h2b, h3, h4, h5, h6, h7, h8, h9, h10, h11⟩ := hX
  obtain ⟨s0, s1, s2, s3, s4, s5, s6, s7, s8, s9, s10, s11, s12, s13, s14, s15, -⟩ := id h1
  have hC := hI.c3 he
  have hinj := hI.2.2.2.2.2.2
  obtain ⟨σx, fx, x1, x2, x3, x4, x5, x6, x7⟩ := fill_pre hI he (v := v) (w := nI w0) (x := x)
  have hCx : hp_C σx (es e) = some 3 := by rw [x2]; exact hC
  have h33 : hp_I σx 3 3 (es e) = ga s 16 e := by rw [x6 _ _ _ (Or.inl (by decide))]; exact (h3 e he).2.1
  -- the numbers of its life
  obtain ⟨q1, q2, q3, q4, q5, q6, q7, q8, q9, q10, q11⟩ := id h2
  generalize hwr : hp_I σ 4 0 (c + 14) = wr at *
  generalize htc : hp_I σ 4 1 (c + 14) = tc at *
  obtain ⟨σy, hσy⟩ : ∃ σy, σy = up_I (up_I (up_I σx 3 1 (es e) v) 3 2 (es e) (nI w0)) 3 3 (es e) (ga s 16 e + 1) := ⟨_, rfl⟩
  have yI : ∀ y k a, y ≠ 3 → hp_I σy y k a = hp_I σx y k a := fun y k a hy => by rw [hσy]; simp [hI_I, hy]
  have hbeg := begin_lay (σ := σy) (s := s) (a := es e) (e := e) (c := c) (v := v) (w := nI w0) (x := x) (wr := wr) (tc := tc) (by rw [hσy]; exact hCx) (by rw [hσy]; show hp_C σx (c + 14) = _; rw [x2]; exact s15) (by rw [yI _ _ _ (by decide), x6 _ _ _ (Or.inl (by decide))]; exact hwr) (by rw [yI _ _ _ (by decide), x6 _ _ _ (Or.inl (by decide))]; exact htc) (by rw [hσy]; show hp_L σx 4 2 (c + 14) = _; rw [x4]; exact q8) q6 q7
  generalize hF : fe (layS s e v (nI w0) x) e = F at *
  generalize hl : lbt (layS s e v (nI w0) x) e = l at *
  generalize hE : en (layS s e v (nI w0) x) e = E at *
  -- readings of the new world
  rw [hσy] at hbeg
  have hbeg : f_Li_begin (some (c + 14)) (some (es e)) x (up_I (up_I (up_I σx 3 1 (es e) v) 3 2 (es e) (nI w0)) 3 3 (es e) (ga s 16 e + 1)) = some (filH σx (es e) v (nI w0) (ga s 16 e + 1) F l E) := hbeg
  clear hσy yI
  have fR : f_W_fill (some c) (some (es e)) v (nI w0) x σ = some (filH σx (es e) v (nI w0) (ga s 16 e + 1) F l E) := by
    rw [fx]
    have k0 : hp_C σx c = some 0 := by rw [x2]; exact s0
    have k7 : hp_R σx 0 6 c = some (c + 14) := by rw [x3]; exact s7
    have k15 : hp_C σx (c + 14) = some 4 := by rw [x2]; exact s15
    unfold f_W_fill_25
    rw [stI hCx, Option.bind_some, stI (σ := up_I σx 3 1 (es e) v) hCx, Option.bind_some, ldI (σ := up_I (up_I σx 3 1 (es e) v) 3 2 (es e) (nI w0)) hCx, Option.bind_some, hI_I, if_neg (by omega), hI_I, if_neg (by omega), h33, stI (σ := up_I (up_I σx 3 1 (es e) v) 3 2 (es e) (nI w0)) hCx, Option.bind_some, ldR (σ := up_I (up_I (up_I σx 3 1 (es e) v) 3 2 (es e) (nI w0)) 3 3 (es e) (ga s 16 e + 1)) k0, Option.bind_some, hR_I, hR_I, hR_I, k7, isO (σ := up_I (up_I (up_I σx 3 1 (es e) v) 3 2 (es e) (nI w0)) 3 3 (es e) (ga s 16 e + 1)) k15, Option.bind_some, hbeg, Option.bind_some]
  have rI : ∀ y k a, y ≠ 3 → hp_I (filH σx (es e) v (nI w0) (ga s 16 e + 1) F l E) y k a = hp_I σx y k a := fun y k a hy => fH_I (Or.inl hy)
  have rI3 : ∀ d k, d < n → d ≠ e → hp_I (filH σx (es e) v (nI w0) (ga s 16 e + 1) F l E) 3 k (es d) = hp_I σ 3 k (es d) := fun d k hd hde => by
    rw [fH_I (Or.inr (fun q => hde (hinj d e hd he q))), x6 3 k (es d) (Or.inl (by decide))]
  have rL : ∀ y k a, y ≠ 3 → hp_L (filH σx (es e) v (nI w0) (ga s 16 e + 1) F l E) y k a = hp_L σ y k a := fun y k a hy => by rw [fH_L (Or.inl hy), x4]
  have rL3 : ∀ d k, d < n → d ≠ e → hp_L (filH σx (es e) v (nI w0) (ga s 16 e + 1) F l E) 3 k (es d) = hp_L σ 3 k (es d) := fun d k hd hde => by
    rw [fH_L (Or.inr (fun q => hde (hinj d e hd he q))), x4]
  have rC : ∀ a, hp_C (filH σx (es e) v (nI w0) (ga s 16 e + 1) F l E) a = hp_C σ a := fun a => by rw [fH_C, x2]
  have rR : ∀ y k a, hp_R (filH σx (es e) v (nI w0) (ga s 16 e + 1) F l E) y k a = hp_R σ y k a := fun y k a => by rw [fH_R, x3]
  have rA' : ∀ a, hp_A (filH σx (es e) v (nI w0) (ga s 16 e + 1) F l E) a = hp_A σ a := fun a => by rw [fH_A, x5]
  have rN : hp_N (filH σx (es e) v (nI w0) (ga s 16 e + 1) F l E) = hp_N σ := by rw [fH_N, x1]
  have e0 : hp_I (filH σx (es e) v (nI w0) (ga s 16 e + 1) F l E) 3 0 (es e) = ga s 11 e := by rw [fH_Ik (by decide), x6 3 0 (es e) (Or.inl (by decide))]; exact (h3 e he).1
  have e7 : hp_I (filH σx (es e) v (nI w0) (ga s 16 e + 1) F l E) 3 7 (es e) = (if ga s 20 e = 0 then 1 else 0) := by rw [fH_Ik (by decide), x6 3 7 (es e) (Or.inl (by decide))]; exact (h3 e he).2.2.1
  have e1 : hp_I (filH σx (es e) v (nI w0) (ga s 16 e + 1) F l E) 3 1 (es e) = v := fH_1
  have e2 : hp_I (filH σx (es e) v (nI w0) (ga s 16 e + 1) F l E) 3 2 (es e) = nI w0 := fH_2
  have e3 : hp_I (filH σx (es e) v (nI w0) (ga s 16 e + 1) F l E) 3 3 (es e) = ga s 16 e + 1 := fH_3
  have e6 : hp_I (filH σx (es e) v (nI w0) (ga s 16 e + 1) F l E) 3 6 (es e) = l := fH_6
  have e4 : hp_L (filH σx (es e) v (nI w0) (ga s 16 e + 1) F l E) 3 4 (es e) = F := fH_4
  have e5 : hp_L (filH σx (es e) v (nI w0) (ga s 16 e + 1) F l E) 3 5 (es e) = E := fH_5
  generalize filH σx (es e) v (nI w0) (ga s 16 e + 1) F l E = σz at *
  have a11 : ∀ j, ga (layS s e v (nI w0) x) 11 j = ga s 11 j := lay_ga (by decide)
  have a20 : ∀ j, ga (layS s e v (nI w0) x) 20 j = ga s 20 j := lay_ga (by decide)
  have a6 : ∀ j, ga (layS s e v (nI w0) x) 6 j = ga s 6 j := lay_ga (by decide)
  have a13e : ga (layS s e v (nI w0) x) 13 e = nI w0 := by simp [layS, giui, giul, giua, giub, glui, glul, glua, glub, gaui, gaul, gaua, gaub, gbui, gbul, gbua, gbub]
  have a12e : ga (layS s e v (nI w0) x) 12 e = v := by simp [layS, giui, giul, giua, giub, glui, glul, glua, glub, gaui, gaul, gaua, gaub, gbui, gbul, gbua, gbub]
  have a16e : ga (layS s e v (nI w0) x) 16 e = ga s 16 e + 1 := by simp [layS, giui, giul, giua, giub, glui, glul, glua, glub, gaui, gaul, gaua, gaub, gbui, gbul, gbua, gbub]
  refine ⟨σz, fR, ⟨?_, ?_, ?_, ?_, ?_, ?_, ?_, ?_, ?_, ?_, ?_, ?_⟩, ?_, rN, rC, rR, rL, fun y k a y3 y7 => (rI y k a y3).trans (x6 y k a (Or.inl y7)), rA'⟩
  · unfold SK at *; simp only [rC, rR]; exact h1
  · have I0 : ∀ k a, hp_I σz 0 k a = hp_I σ 0 k a := fun k a => (rI 0 k a (by decide)).trans (x6 _ _ _ (Or.inl (by decide)))
    have I4 : ∀ k a, hp_I σz 4 k a = hp_I σ 4 k a := fun k a => (rI 4 k a (by decide)).trans (x6 _ _ _ (Or.inl (by decide)))
    have I6 : ∀ k a, hp_I σz 6 k a = hp_I σ 6 k a := fun k a => (rI 6 k a (by decide)).trans (x6 _ _ _ (Or.inl (by decide)))
    have I8 : ∀ k a, hp_I σz 8 k a = hp_I σ 8 k a := fun k a => (rI 8 k a (by decide)).trans (x6 _ _ _ (Or.inl (by decide)))
    unfold SCa
    rw [I0, I0, I0, I0, I0, I4, I4, I6, I6, I8, I8, rL 4 _ _ (by decide), hwr, htc]
    exact ⟨q1, q2, q3, q4, q5, q6, q7, q8, q9, q10, q11⟩
  · have I1 : ∀ k a, hp_I σz 1 k a = hp_I σ 1 k a := fun k a => (rI 1 k a (by decide)).trans (x6 _ _ _ (Or.inl (by decide)))
    unfold SCb at *
    simp only [I1]
    exact h2b
  · intro d hd
    by_cases hde : d = e
    · subst hde
      rw [a11, a20, a12e, a16e, hF, hl, hE]
      exact ⟨e0, e1, e3, e7, e5, e4, e6⟩
    · obtain ⟨y1, y2, y3, y4⟩ := h3 d hd
      obtain ⟨y5, y6, y7, y8⟩ := y4 hde
      obtain ⟨z1, z2, z3⟩ := lay_fe (s := s) (e := e) (v := v) (w := nI w0) (x := x) hde
      rw [a11, a20, lay_gan hde, lay_gan hde, z1, z2, z3, rI3 d 0 hd hde, rI3 d 1 hd hde, rI3 d 3 hd hde, rI3 d 6 hd hde, rI3 d 7 hd hde, rL3 d 4 hd hde, rL3 d 5 hd hde]
      exact ⟨y1, y5, y2, y3, y6, y7, y8⟩
  · unfold MP mpo at *; simp only [rA', a6]; exact h4
  · have I10 : ∀ k a, hp_I σz 10 k a = hp_I σ 10 k a := fun k a => (rI 10 k a (by decide)).trans (x6 _ _ _ (Or.inl (by decide)))
    have a7 : ∀ j, ga (layS s e v (nI w0) x) 7 j = ga s 7 j := lay_ga (by decide)
    have a8 : ∀ j, ga (layS s e v (nI w0) x) 8 j = ga s 8 j := lay_ga (by decide)
    have a9 : ∀ j, ga (layS s e v (nI w0) x) 9 j = ga s 9 j := lay_ga (by decide)
    unfold WY WYk at *; simp only [rA', rC, rR, rN, I10, a7, a8, a9]; exact h5
  · have I5 : ∀ k a, hp_I σz 5 k a = hp_I σ 5 k a := fun k a => (rI 5 k a (by decide)).trans (x6 _ _ _ (Or.inl (by decide)))
    have a46 : ga (layS s e v (nI w0) x) 46 = ga s 46 := funext (lay_ga (by decide))
    have a47 : ga (layS s e v (nI w0) x) 47 = ga s 47 := funext (lay_ga (by decide))
    have a48 : ga (layS s e v (nI w0) x) 48 = ga s 48 := funext (lay_ga (by decide))
    unfold LGt at *
    rw [I5, rA', rA', rA', a46, a47, a48]; exact h6
  · have I2 : ∀ k a, hp_I σz 2 k a = hp_I σ 2 k a := fun k a => (rI 2 k a (by decide)).trans (x6 _ _ _ (Or.inl (by decide)))
    have a30 : ∀ j, ga (layS s e v (nI w0) x) 30 j = ga s 30 j := lay_ga (by decide)
    have a31 : ∀ j, ga (layS s e v (nI w0) x) 31 j = ga s 31 j := lay_ga (by decide)
    unfold CTT at *
    simp only [rA', rC, rR, I2, a30, a31]; exact h7
  · unfold Out at *; rw [rA']; exact h8
  · unfold AD at *; rw [rN]; exact h9
  · obtain ⟨w1, w2, w3, w4, w5, w6⟩ := h10
    unfold WFa
    simp only [a11, a20, a6]
    refine ⟨w1, fun d hd => ?_, w3, w4, w5, fun d hd => ?_⟩
    · by_cases hde : d = e
      · subst hde; exact ⟨w0, hw1, hw2, a13e⟩
      · rw [lay_gan hde]; exact w2 d hd hde
    · by_cases hde : d = e
      · subst hde
        rw [hF, ← hF, lay_fee.1]
        split
        · exact end_le h11.1.1 h11.1.2
        · split
          · exact end_le h11.1.1 h11.1.2
          · exact Int64.le_refl _
      · rw [(lay_fe (s := s) (e := e) (v := v) (w := nI w0) (x := x) hde).1]; exact w6 d hd hde
  · obtain ⟨u1, u2, u3, u4, u5, u6, u7, u8, u9, u10⟩ := h11
    refine ⟨u1, u2, u3, u4, u5, u6, u7, fun d hd => ?_, fun k hk => ?_, ?_⟩
    · show _ = va_up o.2 e v d
      unfold va_up
      by_cases hde : d = e
      · subst hde; rw [a12e, if_pos rfl]
      · rw [lay_gan hde, if_neg hde]; exact u8 d hd
    · have hk : va_up o.2 e v (2000 + k) = 1 := hk
      unfold va_up at hk
      rw [if_neg (by omega)] at hk
      rw [a6]; exact u9 k hk
    · show gi s 0 = va_up o.2 e v 1999
      unfold va_up
      rw [if_neg (by omega)]; exact u10
  · obtain ⟨g1, g2, g3, g4, g5, g6, g7⟩ := id hI
    refine ⟨?_, fun r hr => ⟨?_, ?_⟩, g3, g4, fun d hd => ⟨by rw [rC]; exact (g5 d hd).1, ?_⟩, fun d hd hno => by rw [rR]; exact g6 d hd hno, g7⟩
    · unfold R0 at *; simp only [rC, rR]; exact g1
    · obtain ⟨c1, c2, c3, c4, c5, c6⟩ := (g2 r hr).1
      exact ⟨by rw [rC]; exact c1, by rw [rR]; exact c2, by rw [rR]; exact c3, by rw [rI _ _ _ (by decide), x6 _ _ _ (Or.inr (by decide))]; exact c4, seg_congr (fun a _ => ⟨rC a, rR _ _ _, rR _ _ _, rR _ _ _⟩) c5, c6⟩
    · rw [rI _ _ _ (by decide), x7 r hr]
      have := sw_upd (wt := wt) (wt' := ga (layS s e v (nI w0) x) 13) (e := e) (L r) (hI.nd hr) (fun d hd hde => by rw [lay_gan hde, hwt d (hI.lt hr hd) hde])
      rw [this, a13e, (g2 r hr).2]
    · by_cases hde : d = e
      · subst hde; rw [e2, a13e]
      · rw [rI3 d 2 hd hde, (g5 d hd).2, lay_gan hde]; exact hwt d hd hde
end FL
