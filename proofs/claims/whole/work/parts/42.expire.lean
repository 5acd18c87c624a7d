/-! an entry goes from map and rooms; EXPIRE -/
def inL (L : Nat → List Nat) (e : Nat) : Prop := ∃ r, in3 r ∧ e ∈ L r
section EX
variable {b σ σ' : Hp} {m c n Q z N B t : Nat} {o : Nat × (Nat → Int32)} {es : Nat → Nat} {W : Nat → Int32} {s s' : RS} {L L' : Nat → List Nat}
theorem Tk.to {i : Nat} (h : Tk c es n L σ s t i) (hI : hp_I σ' 9 2 (c + 7) = hp_I σ 9 2 (c + 7)) (h8 : hp_A σ' (c + 8) = hp_A σ (c + 8)) (h9 : hp_A σ' (c + 9) = hp_A σ (c + 9)) (g27 : gi s' 27 = gi s 27) (a25 : ga s' 25 = ga s 25) (a26 : ga s' 26 = ga s 26) (hL : ∀ e, inL L' e → inL L e) (hg : ∀ e, e < n → inL L' e → ga s' 20 e = 0 → ga s 20 e = 0) : Tk c es n L' σ' s' t i := by
  obtain ⟨h1, h2, h3, h4, h5, q, kd, f, h6, h7, k1, k2, k3⟩ := h
  refine ⟨h1, h2, by rw [g27]; exact h3, by rw [hI]; exact h4, by rw [h9, a25]; exact h5, q, kd, f, by rw [h8]; exact h6, by rw [a25, a26]; exact h7, fun j j1 j2 j3 r hr hm => ?_, k2, fun e r he hr hm h0 => ?_⟩
  · obtain ⟨r', hr', hm'⟩ := hL _ ⟨r, hr, hm⟩
    exact k1 j j1 j2 j3 r' hr' hm'
  · obtain ⟨r', hr', hm'⟩ := hL _ ⟨r, hr, hm⟩
    exact k3 e r' he hr' hm' (hg e he ⟨r, hr, hm⟩ h0)
theorem inL_out (h : RR s n L B) {e q : Nat} (hq : in3 q) (he : e ∈ L q) {d : Nat} (hd : inL (upL L q ((L q).erase e)) d) : inL L d ∧ d ≠ e := by
  obtain ⟨r, hr, hm⟩ := hd
  by_cases hrq : r = q
  · subst hrq
    rw [upL_s] at hm
    have := ((h.2.2.2.2.1 r hr).mem_erase_iff).mp hm
    exact ⟨⟨r, hr, this.2⟩, this.1⟩
  · rw [upL_n hrq] at hm
    exact ⟨⟨r, hr, hm⟩, fun z => hrq (h.one hr hq (z ▸ hm) he)⟩
theorem Sim.there (h : Sim c o es n Q z W L B 0 σ s) {e r : Nat} (hr : in3 r) (he : e ∈ L r) : ga s 20 e = 1 := by
  obtain ⟨hR, hI, hRR, -, -, hT⟩ := h
  have hen := hI.lt hr he
  rcases hR.2.2.2.2.2.2.2.2.2.2.1.2.2.2.1 e hen with z | z
  · obtain ⟨-, -, -, -, -, q, kd, f, -, -, -, -, k3⟩ := hT
    obtain ⟨j, h1, h2, -⟩ := k3 e r hen hr he z
    omega
  · exact z
theorem Sim.away (hb : hp_C b m = some 11) (h : Sim c o es n Q z W L B 0 σ s) {e q : Nat} (hq : in3 q) (he : e ∈ L q) (w : Int32) : ∃ σ1 σ2 s2, f_W_dropFromMap (some c) (some (es e)) w σ = some σ1 ∧ SK σ1 c ∧ hp_C σ1 (c + 17) = some 8 ∧ f_Rs_takeOut (some (c + 17)) (some (es e)) σ1 = some σ2 ∧ f_M_drop (some m) (nI e) w (rh b m (ua s 15 e 0)) = some (rh b m s2) ∧ Sim c o es n Q z W (upL L q ((L q).erase e)) B 0 σ2 s2 ∧ RL (ua s 15 e 0) s2 := by
  have hth := h.there hq he
  obtain ⟨hR, hI, hRR, hN0, hN1, hT⟩ := h
  have hen := hI.lt hq he
  have h600 := hRR.2.1
  have hC := hI.c3 hen
  have rm : RM s (ua s 15 e 0) := ⟨fun _ => rfl, fun k hk _ j => by simp [giui, giul, giua, giub, glui, glul, glua, glub, gaui, gaul, gaua, gaub, gbui, gbul, gbua, gbub, hk], fun _ _ => rfl, fun _ _ _ => rfl⟩
  have hR' := hR.m37 M37.rf rm
  obtain ⟨σ1, s2, f1, f2, r1, ml, rl, h20⟩ := hR'.drop hb hen h600 hC (fun d hd z => hI.2.2.2.2.2.2 d e hd hen z) (by simp [giui, giul, giua, giub, glui, glul, glua, glub, gaui, gaul, gaua, gaub, gbui, gbul, gbua, gbub]; exact hth) w
  obtain ⟨σ2, f3, j3, m3⟩ := (hI.ml ml).takeOut hq he
  have w13 : ga s2 13 = ga s 13 := by
    rw [rl.2.1 13 (by decide) (by decide) (by decide) (by decide) (by decide)]
    exact funext fun j => by simp [giui, giul, giua, giub, glui, glul, glua, glub, gaui, gaul, gaua, gaub, gbui, gbul, gbua, gbub]
  refine ⟨σ1, σ2, s2, f1, r1.1, (hI.ml ml).1.1, f3, f2, ⟨r1.m37 m3 RM.rf, by rw [w13]; exact j3, (hRR.outq hq he).ml rl, ?_, ?_, ?_⟩, rl⟩
  · exact ((hN0.m37 M37.rf rm).ml (by decide) ml rl).m37 m3 RM.rf
  · exact ((hN1.m37 M37.rf rm).ml (by decide) ml rl).m37 m3 RM.rf
  · refine hT.to ?_ ?_ ?_ ?_ ?_ ?_ (fun d hd => (inL_out hRR hq he hd).1) (fun d hd hL' h0 => ?_)
    · rw [m3.2.2.2.2.1 9 _ _ (by decide), ml.2.2.2.2.1 9 _ _ (by decide) (Or.inl (by decide))]
    · rw [m3.2.2.1, ml.2.2.2.2.2 _ (by omega) (by omega) (by omega) (by omega)]
    · rw [m3.2.2.1, ml.2.2.2.2.2 _ (by omega) (by omega) (by omega) (by omega)]
    · rw [rl.1 27 (by decide)]; rfl
    · rw [rl.2.1 25 (by decide) (by decide) (by decide) (by decide) (by decide)]; exact funext fun j => by simp [giui, giul, giua, giub, glui, glul, glua, glub, gaui, gaul, gaua, gaub, gbui, gbul, gbua, gbub]
    · rw [rl.2.1 26 (by decide) (by decide) (by decide) (by decide) (by decide)]; exact funext fun j => by simp [giui, giul, giua, giub, glui, glul, glua, glub, gaui, gaul, gaua, gaub, gbui, gbul, gbua, gbub]
    · rw [h20, if_neg (inL_out hRR hq he hL').2] at h0
      simpa [giui, giul, giua, giub, glui, glul, glua, glub, gaui, gaul, gaua, gaub, gbui, gbul, gbua, gbub] using h0
/-! the reference's scan -/
def xP (s : RS) (e : Nat) : Prop := ¬ ga s 15 e = 0 ∧ en s e ≤ gl s 5
theorem exp_scan (hb : hp_C b m = some 11) (h : RR s n L B) (hW : WFa s n) {rec2 : Option Nat → Int32 → Hp → Option Hp} : ∀ (i j : Nat), j ≤ n → n - j < i → f_M_expire_10 N rec2 i (some m) (oI (bst (fun e => ¬ ga s 15 e = 0 ∧ en s e ≤ gl s 5) (fun x y => (en s x).toInt < (en s y).toInt ∨ ((en s x).toInt = (en s y).toInt ∧ (ga s 11 x).toInt < (ga s 11 y).toInt)) j)) (nI j) (rh b m s) = f_M_expire_104 N rec2 (some m) (oI (bst (fun e => ¬ ga s 15 e = 0 ∧ en s e ≤ gl s 5) (fun x y => (en s x).toInt < (en s y).toInt ∨ ((en s x).toInt = (en s y).toInt ∧ (ga s 11 x).toInt < (ga s 11 y).toInt)) n)) (match bst (fun e => ¬ ga s 15 e = 0 ∧ en s e ≤ gl s 5) (fun x y => (en s x).toInt < (en s y).toInt ∨ ((en s x).toInt = (en s y).toInt ∧ (ga s 11 x).toInt < (ga s 11 y).toInt)) n with | none => 0 | some _ => 1) (rh b m s) := by
  have h600 := h.2.1
  generalize hF : bst (fun e => ¬ ga s 15 e = 0 ∧ en s e ≤ gl s 5) (fun x y => (en s x).toInt < (en s y).toInt ∨ ((en s x).toInt = (en s y).toInt ∧ (ga s 11 x).toInt < (ga s 11 y).toInt)) = F
  have hF0 : ∀ j, F (j + 1) = match F j with
      | none => if ¬ ga s 15 j = 0 ∧ en s j ≤ gl s 5 then some j else none
      | some d => if (¬ ga s 15 j = 0 ∧ en s j ≤ gl s 5) ∧ ((en s j).toInt < (en s d).toInt ∨ ((en s j).toInt = (en s d).toInt ∧ (ga s 11 j).toInt < (ga s 11 d).toInt)) then some j else some d := by
    intro j; rw [← hF]; rfl
  have hFi : ∀ j d, F j = some d → d < j := fun j d hd => by rw [← hF] at hd; exact (bst_in _ _ hd).1
  intro i
  induction i with
  | zero => intro j _ hi; omega
  | succ i ih =>
    intro j hj hi
    by_cases hjn : j = n
    · subst hjn
      have hle : nI j ≤ nI j := Int32.le_refl _
      cases hFj : F j with
      | none => simp [f_M_expire_10, ldIr hb, h.1, hle, oI]
      | some d =>
        have := nI_m1 (e := d) (by have := hFi _ _ hFj; omega)
        simp [f_M_expire_10, ldIr hb, h.1, hle, oI, this]
    · have hlt : ¬ nI n ≤ nI j := nI_ge (by omega) (by omega)
      have hij : ix_ (nI j) 1100 = some j := ixN (by omega) (by omega)
      have := ih (j + 1) (by omega) (by omega)
      rw [← nI_1, hF0] at this
      rw [← this]
      by_cases hroom : ga s 15 j = 0
      · have e1 : (match F j with
          | none => if ¬ ga s 15 j = 0 ∧ en s j ≤ gl s 5 then some j else none
          | some d => if (¬ ga s 15 j = 0 ∧ en s j ≤ gl s 5) ∧ ((en s j).toInt < (en s d).toInt ∨ ((en s j).toInt = (en s d).toInt ∧ (ga s 11 j).toInt < (ga s 11 d).toInt)) then some j else some d) = F j := by
          cases F j <;> simp [hroom]
        rw [e1]
        simp [f_M_expire_10, f_M_expire_88, ldIr hb, ldRr hb, h.1, hlt, al15, hij, hroom]
      · have ho := over_run (b := b) (m := m) (s := s) hb (e := j) (by omega) (hW.2.2.2.2.2 j (by omega))
        have hen1 := end_run (b := b) (m := m) (s := s) hb (e := j) (by omega) (hW.2.2.2.2.2 j (by omega))
        by_cases hov : en s j ≤ gl s 5
        · cases hFj : F j with
          | none =>
            simp [f_M_expire_10, f_M_expire_88, f_M_expire_86, ldIr hb, ldRr hb, h.1, hlt, al15, hij, hroom, isOr hb, ho, pb, ovI, hov, oI]
          | some d =>
            have hdj := hFi _ _ hFj
            have hm1 := nI_m1 (e := d) (by omega)
            have hid : ix_ (nI d) 1100 = some d := ixN (by omega) (by omega)
            have hen2 := end_run (b := b) (m := m) (s := s) hb (e := d) (by omega) (hW.2.2.2.2.2 d (by omega))
            by_cases h1 : en s j < en s d
            · have h1' := lt64.mp h1
              simp [f_M_expire_10, f_M_expire_88, f_M_expire_86, ldIr hb, ldRr hb, h.1, hlt, al15, hij, hroom, isOr hb, ho, pb, ovI, hov, oI, hm1, hen1, hen2, lgc_lt0, h1, h1']
            · have h1' : ¬ (en s j).toInt < (en s d).toInt := fun z => h1 (lt64.mpr z)
              by_cases h2 : en s j = en s d
              · have h2' := eq64.mp h2
                by_cases h3 : ga s 11 d ≤ ga s 11 j
                · have h3' : ¬ (ga s 11 j).toInt < (ga s 11 d).toInt := by
                    rw [Int32.le_iff_toInt_le] at h3; omega
                  simp [f_M_expire_10, f_M_expire_88, f_M_expire_86, ldIr hb, ldRr hb, h.1, hlt, al15, al11, hij, hid, hroom, isOr hb, ho, pb, ovI, hov, oI, hm1, hen1, hen2, lgc_lt0, lgc_eq0, h1, h2, h3, h1', h2', h3']
                · have h3' : (ga s 11 j).toInt < (ga s 11 d).toInt := by
                    rw [Int32.not_le, Int32.lt_iff_toInt_lt] at h3; exact h3
                  simp [f_M_expire_10, f_M_expire_88, f_M_expire_86, ldIr hb, ldRr hb, h.1, hlt, al15, al11, hij, hid, hroom, isOr hb, ho, pb, ovI, hov, oI, hm1, hen1, hen2, lgc_lt0, lgc_eq0, h1, h2, h3, h1', h2', h3']
                  rw [h2] at hov
                  have hov' := Int64.not_lt.mpr hov
                  simp only [hov, hov', if_true, if_false]
              · have h2' : ¬ (en s j).toInt = (en s d).toInt := fun z => h2 (eq64.mpr z)
                simp [f_M_expire_10, f_M_expire_88, f_M_expire_86, ldIr hb, ldRr hb, h.1, hlt, al15, al11, hij, hid, hroom, isOr hb, ho, pb, ovI, hov, oI, hm1, hen1, hen2, lgc_lt0, lgc_eq0, h1, h2, h1', h2']
        · have e1 : (match F j with
            | none => if ¬ ga s 15 j = 0 ∧ en s j ≤ gl s 5 then some j else none
            | some d => if (¬ ga s 15 j = 0 ∧ en s j ≤ gl s 5) ∧ ((en s j).toInt < (en s d).toInt ∨ ((en s j).toInt = (en s d).toInt ∧ (ga s 11 j).toInt < (ga s 11 d).toInt)) then some j else some d) = F j := by
            cases F j <;> simp [hov]
          rw [e1]
          simp [f_M_expire_10, f_M_expire_88, ldIr hb, ldRr hb, h.1, hlt, al15, hij, hroom, isOr hb, ho, pb, ovI, hov]
theorem mem3 {e : Nat} : e ∈ L 1 ++ L 2 ++ L 3 ↔ inL L e := by
  simp only [List.mem_append]
  constructor
  · rintro ((h | h) | h)
    · exact ⟨1, i1, h⟩
    · exact ⟨2, i2, h⟩
    · exact ⟨3, i3, h⟩
  · rintro ⟨r, hr, h⟩
    rcases in3_or hr with rfl | rfl | rfl
    · exact Or.inl (Or.inl h)
    · exact Or.inl (Or.inr h)
    · exact Or.inr h
theorem RR.inL (h : RR s n L B) {e : Nat} (he : e < n) : ¬ ga s 15 e = 0 ↔ inL L e := by
  rw [h.room0 he]
  constructor
  · intro z
    by_cases hI : Jvm.Pilot.CWindowCacheLaw_law_r6654_07e9e3.inL L e
    · exact hI
    · exact absurd (fun r hr hm => hI ⟨r, hr, hm⟩) z
  · rintro ⟨r, hr, hm⟩ z
    exact z r hr hm
theorem Sim.keys (h : Sim c o es n Q z W L B 0 σ s) {a d : Nat} (ha : inL L a) (hd : inL L d) (hne : a ≠ d) : (ga s 11 a).toInt ≠ (ga s 11 d).toInt := by
  obtain ⟨r, hr, hm⟩ := ha
  obtain ⟨q, hq, hm'⟩ := hd
  have t1 := h.there hr hm
  have t2 := h.there hq hm'
  have n1 := h.2.1.lt hr hm
  have n2 := h.2.1.lt hq hm'
  have h600 := h.2.2.1.2.1
  have hW := h.1.2.2.2.2.2.2.2.2.2.2.1
  obtain ⟨k1, hk1, e1⟩ := hW.1 a n1
  intro z
  have z' := Int32.toInt_inj.mp z
  have g1 := hW.2.2.2.2.1 a k1 n1 hk1 t1 e1
  have g2 := hW.2.2.2.2.1 d k1 n2 hk1 t2 (by rw [← z']; exact e1)
  rw [g1, nI_eq (by omega) (by omega)] at g2
  exact hne g2
theorem Sim.pick (h : Sim c o es n Q z W L B 0 σ s) : bst (fun e => ¬ ga s 15 e = 0 ∧ en s e ≤ gl s 5) (fun x y => (en s x).toInt < (en s y).toInt ∨ ((en s x).toInt = (en s y).toInt ∧ (ga s 11 x).toInt < (ga s 11 y).toInt)) n = fov (en s) (ga s 11) (gl s 5) (L 1 ++ L 2 ++ L 3) none := by
  have hRR := h.2.2.1
  have hm := fov_min (E := en s) (K := ga s 11) (T := gl s 5) (L 1 ++ L 2 ++ L 3) none (fun a d ha hd hne => h.keys (by rcases ha with z | z; exact mem3.mp z; cases z) (by rcases hd with z | z; exact mem3.mp z; cases z) hne)
  cases hv : fov (en s) (ga s 11) (gl s 5) (L 1 ++ L 2 ++ L 3) none with
  | none =>
    rw [hv] at hm
    exact bst_none n (fun e he z => hm.2 e (mem3.mpr ((hRR.inL he).mp z.1)) z.2)
  | some x =>
    rw [hv] at hm
    obtain ⟨t1, t2, -⟩ := hm
    rcases t1 with t1 | t1
    · have hx := mem3.mp t1.1
      obtain ⟨r, hr, hxr⟩ := id hx
      have hxn := hRR.2.2.2.1 r hr x hxr
      refine bst_eq (h := x) ⟨(hRR.inL hxn).mpr hx, t1.2⟩ n hxn (fun d hd hP hne => ?_)
      have := t2 d (mem3.mpr ((hRR.inL hd).mp hP.1)) hP.2 hne
      unfold lto at this
      exact ⟨this, by omega⟩
    · cases t1
def tot (L : Nat → List Nat) : Nat := (L 1).length + (L 2).length + (L 3).length
theorem tot_out {q e : Nat} (hq : in3 q) (he : e ∈ L q) : tot (upL L q ((L q).erase e)) + 1 = tot L := by
  unfold tot
  have hl := List.length_erase_of_mem he
  have hp := List.length_pos_of_mem he
  rcases in3_or hq with rfl | rfl | rfl
  · rw [upL_s, upL_n (by decide), upL_n (by decide)]; omega
  · rw [upL_s, upL_n (by decide), upL_n (by decide)]; omega
  · rw [upL_s, upL_n (by decide), upL_n (by decide)]; omega
theorem expire_loop (hb : hp_C b m = some 11) (hN : 2000 ≤ N) : ∀ (k i j : Nat) (σ : Hp) (s : RS) (L : Nat → List Nat), Sim c o es n Q z W L B 0 σ s → k = tot L → k < i → k < j → ∃ σ' s' L', f_W_expire_8 N i (some c) (nI k) σ = some σ' ∧ f_M_expire_2 N j (some m) 1 (rh b m s) = some (rh b m s') ∧ Sim c o es n Q z W L' B 0 σ' s' := by
  intro k
  induction k with
  | zero =>
    intro i j σ s L h hk hi hj
    obtain ⟨hR, hI, hRR, hN0, hN1, hT⟩ := id h
    have h600 := hRR.2.1
    cases i with
    | zero => omega
    | succ i =>
      cases j with
      | zero => omega
      | succ j =>
        have hsc := exp_scan (N := N) (rec2 := f_M_expire_2 N j) hb hRR hR.2.2.2.2.2.2.2.2.2.2.1 N 0 (by omega) (by omega)
        unfold tot at hk
        have e1 : L 1 = [] := List.length_eq_zero_iff.mp (by omega)
        have e2 : L 2 = [] := List.length_eq_zero_iff.mp (by omega)
        have e3 : L 3 = [] := List.length_eq_zero_iff.mp (by omega)
        rw [h.pick, e1, e2, e3, nI_0] at hsc
        refine ⟨σ, s, L, by simp [f_W_expire_8, nI_0], ?_, h⟩
        simp only [bst, oI, fov, List.append_nil] at hsc
        simp [f_M_expire_2, hsc, f_M_expire_104]
  | succ k ih =>
    intro i j σ s L h hk hi hj
    obtain ⟨hR, hI, hRR, hN0, hN1, hT⟩ := id h
    have h600 := hRR.2.1
    cases i with
    | zero => omega
    | succ i =>
      cases j with
      | zero => omega
      | succ j =>
        have hsc := exp_scan (N := N) (rec2 := f_M_expire_2 N j) hb hRR hR.2.2.2.2.2.2.2.2.2.2.1 N 0 (by omega) (by omega)
        rw [h.pick, nI_0] at hsc
        have l1 := hI.len i1; have l2 := hI.len i2; have l3 := hI.len i3
        unfold tot at hk
        have hne : ¬ (nI (k + 1) ≤ 0) := nI_nle (by omega) (by omega)
        obtain ⟨k0, k1, k2, k3, k4, k5, k6, k7, k8, k9, k10, k11, k12, k13, k14, k15, k16, -⟩ := id hR.1
        have ht : hp_L σ 4 2 (c + 14) = gl s 5 := hR.2.1.2.2.2.2.2.2.2.1
        have hfo := hI.firstOver (N := N) (E := en s) (K := ga s 11) (fun e he => (hR.2.2.2.1 e he).2.2.2.2.1) (fun e he => (hR.2.2.2.1 e he).1) (gl s 5) h600 (by omega)
        cases hv : fov (en s) (ga s 11) (gl s 5) (L 1 ++ L 2 ++ L 3) none with
        | none =>
          rw [hv] at hsc hfo
          refine ⟨σ, s, L, ?_, ?_, h⟩
          · simp [f_W_expire_8, hne, ldR k0, k9, k7, ldL k15, ht, isO hI.1.1, hfo, pb]
          · simp only [bst, oI] at hsc
            simp [f_M_expire_2, hsc, f_M_expire_104]
        | some e =>
          rw [hv] at hsc hfo
          have he : inL L e := mem3.mp ((fov_in _ _ _ hv).resolve_right (by simp))
          obtain ⟨q, hq, hm⟩ := he
          have hen := hI.lt hq hm
          obtain ⟨σ1, σ2, s2, f1, sk1, c17, f2, f3, h', -⟩ := h.away hb hq hm 2
          have htt := tot_out hq hm
          obtain ⟨σ', s', L', f4, f5, r⟩ := ih i j σ2 s2 _ h' (by unfold tot at htt ⊢; omega) (by omega) (by omega)
          refine ⟨σ', s', L', ?_, ?_, r⟩
          · have hk1 : nI (k + 1) + (-1) = nI k := pk_m1 k
            simp [f_W_expire_8, hne, ldR k0, k9, k7, ldL k15, ht, isO hI.1.1, hfo, pb, isO k0, f1, ldR sk1.1, sk1.2.2.2.2.2.2.2.2.2.1, isO c17, f2, hk1, f4]
          · simp only [bst, oI] at hsc
            have hie : ix_ (nI e) 1100 = some e := ixN (by omega) (by omega)
            simp [f_M_expire_2, hsc, f_M_expire_104, ldRr hb, as15, hie, isOr hb, f3, f5]
theorem Sim.expire (hb : hp_C b m = some 11) (hN : 3000 ≤ N) (h : Sim c o es n Q z W L B 0 σ s) : ∃ σ' s' L', f_W_expire N (some c) σ = some σ' ∧ f_M_expire N (some m) (rh b m s) = some (rh b m s') ∧ Sim c o es n Q z W L' B 0 σ' s' := by
  obtain ⟨hR, hI, hRR, hN0, hN1, hT⟩ := id h
  have h600 := hRR.2.1
  have l1 := hI.len i1; have l2 := hI.len i2; have l3 := hI.len i3
  obtain ⟨σ', s', L', f1, f2, r⟩ := expire_loop (N := N) hb (by omega) (tot L) N N σ s L h rfl (by unfold tot; omega) (by unfold tot; omega)
  obtain ⟨k0, k1, k2, k3, k4, k5, k6, k7, k8, k9, -⟩ := id hR.1
  unfold tot at f1
  exact ⟨σ', s', L', by simp [f_W_expire, ldR k0, k9, isO hI.1.1, hI.size, pb, f1], by simp [f_M_expire, f2], r⟩
end EX
