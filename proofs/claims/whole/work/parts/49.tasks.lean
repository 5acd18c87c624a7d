/-! TASKS worked off; MAINTENANCE -/
section TS
variable {b σ σ' : Hp} {m c n Q z N B B' t : Nat} {o : Nat × (Nat → Int32)} {es : Nat → Nat} {W : Nat → Int32} {s s' : RS} {L L' : Nat → List Nat}
theorem tasks_loop (hb : hp_C b m = some 11) (hN : 10000 ≤ N) : ∀ (k i ic ir : Nat) (σ : Hp) (s : RS) (L : Nat → List Nat) (W : Nat → Int32), Rest c o es n Q z W σ s → RI σ c es n (ga s 13) L → RR s n L (B + 602 * k) → Nt c es n σ s 0 0 → Nt c es n σ s 1 0 → Tk c es n L σ s t i → i + k = t → k < ic → k < ir → ∃ σ' s' L' W', f_W_takeTasks_2 N ic (some c) (nI i) σ = some σ' ∧ f_M_workTasks_2 N ir (some m) (nI i) (rh b m s) = some (rh b m s') ∧ Sim c o es n Q z W' L' B 0 σ' s' := by
  intro k
  induction k with
  | zero =>
    intro i ic ir σ s L W hR hI hRR hN0 hN1 hT hit hic hir
    cases ic with
    | zero => omega
    | succ ic =>
      cases ir with
      | zero => omega
      | succ ir =>
        obtain ⟨h1, h2, h3, h4, h5, q, kd, f, h6, h7, k1, k2, k3⟩ := id hT
        have hit' : i = t := by omega
        subst hit'
        have hle : nI i ≤ nI i := Int32.le_refl _
        obtain ⟨s0, s1, s2, s3, s4, s5, s6, s7, s8, s9, s10, s11, s12, s13, -⟩ := id hR.1
        refine ⟨up_I σ 9 2 (c + 7) 0, ui s 27 0, L, W, ?_, ?_, ?_, ?_, ?_, ?_, ?_, ?_⟩
        · simp [f_W_takeTasks_2, ldR s0, s5, ldI s13, h4, hle, stI s13]
        · simp [f_M_workTasks_2, ldIr hb, h3, hle, stIr hb]
        · exact hR
        · exact hI.upI (by decide) (Or.inl (by decide))
        · exact hRR
        · unfold Nt at *
          exact hN0
        · unfold Nt at *
          exact hN1
        · refine ⟨by omega, by omega, by simp [giui, giul, giua, giub, glui, glul, glua, glub, gaui, gaul, gaua, gaub, gbui, gbul, gbua, gbub, nI_0], by simp [hI_I, nI_0], h5, q, kd, f, h6, fun j _ z => by omega, fun j _ z => by omega, fun j l _ z => by omega, fun e r he hr hm h0 => ?_⟩
          obtain ⟨j, j1, j2, -⟩ := k3 e r he hr hm h0
          omega
  | succ k ih =>
    intro i ic ir σ s L W hR hI hRR hN0 hN1 hT hit hic hir
    cases ic with
    | zero => omega
    | succ ic =>
      cases ir with
      | zero => omega
      | succ ir =>
        have h600 := hRR.2.1
        obtain ⟨h1, h2, h3, h4, h5, q, kd, f, h6, h7, k1, k2, k3⟩ := id hT
        have hlt : ¬ nI t ≤ nI i := nI_ge (by omega) (by omega)
        have hii : ix_ (nI i) 8 = some i := ixN (by omega) (by decide)
        obtain ⟨s0, s1, s2, s3, s4, s5, s6, s7, s8, s9, s10, s11, s12, s13, s14, s15, s16, s17, s18, s19, s20, -⟩ := id hR.1
        obtain ⟨p1, p2, p3, p4, p5⟩ := h7 i (Nat.le_refl _) (by omega)
        have hie : ix_ (nI (q i)) 1100 = some (q i) := ixN (by omega) (by decide)
        have hkey := (hR.2.2.2.1 (q i) p1).1
        -- the entry nulled
        have hR0 : Rest c o es n Q z W (up_A σ (c + 8) (3, 8, .inr (.inr (.inr (.inr (va_up f i none)))))) s := hR.upA (by omega)
        have hI0 : RI (up_A σ (c + 8) (3, 8, .inr (.inr (.inr (.inr (va_up f i none)))))) c es n (ga s 13) L := hI.upA
        have hN00 : Nt c es n (up_A σ (c + 8) (3, 8, .inr (.inr (.inr (.inr (va_up f i none)))))) s 0 0 := hN0.upA (by omega)
        have hN10 : Nt c es n (up_A σ (c + 8) (3, 8, .inr (.inr (.inr (.inr (va_up f i none)))))) s 1 0 := hN1.upA (by omega)
        have z8 : hp_A (up_A σ (c + 8) (3, 8, .inr (.inr (.inr (.inr (va_up f i none)))))) (c + 8) = some (3, 8, .inr (.inr (.inr (.inr (va_up f i none))))) := by rw [hA_A, if_pos rfl]
        have z9 : hp_A (up_A σ (c + 8) (3, 8, .inr (.inr (.inr (.inr (va_up f i none)))))) (c + 9) = some (0, 8, .inl (ga s 25)) := by rw [hA_A, if_neg (by omega)]; exact h5
        have zI : hp_I (up_A σ (c + 8) (3, 8, .inr (.inr (.inr (.inr (va_up f i none)))))) 9 2 (c + 7) = nI t := h4
        have eRun : f_W_takeTasks_2 N (ic + 1) (some c) (nI i) σ = (fun σ20 => Option.bind (al_I σ20 0 (some (c + 9)) (nI i)) fun x27 =>
            if x27 = 2 then
              Option.bind (ld_R σ20 (some c) 0 8) fun x62 => Option.bind (is_O σ20 x62 8) fun x65 => Option.bind (f_Rs_takeOut x62 (some (es (q i))) σ20) fun σ67 => f_W_takeTasks_117 N (f_W_takeTasks_2 N ic) (some c) (nI i) σ67
            else
              Option.bind (ld_R σ20 (some c) 0 7) fun x30 => Option.bind (ld_I σ20 (some (es (q i))) 3 0) fun x32 => Option.bind (is_O σ20 x30 2) fun x35 => Option.bind (f_Co_add N x30 x32 σ20) fun σ37 => Option.bind (ld_R σ37 (some c) 0 4) fun x38 => Option.bind (ld_R σ37 x38 9 1) fun x40 => Option.bind (al_I σ37 0 x40 (nI i)) fun x42 =>
              if x42 = 1 then
                Option.bind (ld_R σ37 (some c) 0 8) fun x56 => Option.bind (is_O σ37 x56 8) fun x59 => Option.bind (f_Rs_touch N x56 (some (es (q i))) σ37) fun σ61 => f_W_takeTasks_117 N (f_W_takeTasks_2 N ic) (some c) (nI i) σ61
              else
                Option.bind (ld_I σ37 (some (es (q i))) 3 7) fun x45 =>
                if x45 = 0 then
                  Option.bind (ld_R σ37 (some c) 0 8) fun x48 => Option.bind (ld_R σ37 x48 8 1) fun x50 => Option.bind (is_O σ37 x50 7) fun x53 => Option.bind (f_Ro_addLatest x50 (some (es (q i))) σ37) fun σ55 => f_W_takeTasks_117 N (f_W_takeTasks_2 N ic) (some c) (nI i) σ55
                else
                  f_W_takeTasks_117 N (f_W_takeTasks_2 N ic) (some c) (nI i) σ37) (up_A σ (c + 8) (3, 8, .inr (.inr (.inr (.inr (va_up f i none)))))) := by
          have d0 : hp_C (up_A σ (c + 8) (3, 8, .inr (.inr (.inr (.inr (va_up f i none)))))) c = some 0 := s0
          have d5 : hp_R (up_A σ (c + 8) (3, 8, .inr (.inr (.inr (.inr (va_up f i none)))))) 0 4 c = some (c + 7) := s5
          have d13 : hp_C (up_A σ (c + 8) (3, 8, .inr (.inr (.inr (.inr (va_up f i none)))))) (c + 7) = some 9 := s13
          have d20 : hp_R (up_A σ (c + 8) (3, 8, .inr (.inr (.inr (.inr (va_up f i none)))))) 9 1 (c + 7) = some (c + 9) := s20
          simp only [f_W_takeTasks_2, ldR s0, s5, ldI s13, h4, hlt, if_false, Option.bind_some, ldR s13, s19, alR h6 hii, p3, asR0 h6 hii, ldR d0, d5, ldR d13, d20, reduceCtorEq]
        generalize up_A σ (c + 8) (3, 8, .inr (.inr (.inr (.inr (va_up f i none))))) = σ0 at *
        have hCe := hI0.c3 p1
        obtain ⟨u0, u1, u2, u3, u4, u5, u6, u7, u8, u9, u10, u11, u12, u13, u14, u15, u16, u17, u18, u19, u20, -⟩ := id hR0.1
        have hkey0 := (hR0.2.2.2.1 (q i) p1).1
        -- how it goes on
        have fin : ∀ (σ1 : Hp) (t1 : RS) (L1 : Nat → List Nat) (W1 : Nat → Int32), Rest c o es n Q z W1 σ1 t1 → RI σ1 c es n (ga t1 13) L1 → RR t1 n L1 (B + 602 * k) → Nt c es n σ1 t1 0 0 → Nt c es n σ1 t1 1 0 → hp_I σ1 9 2 (c + 7) = nI t → hp_A σ1 (c + 8) = some (3, 8, .inr (.inr (.inr (.inr (va_up f i none))))) → hp_A σ1 (c + 9) = some (0, 8, .inl (ga s 25)) → gi t1 27 = nI t → ga t1 25 = ga s 25 → ga t1 26 = ga s 26 → ga t1 20 = ga s 20 → (∀ j, i + 1 ≤ j → j < t → kd j = 0 → ¬ inL L1 (q j)) → (∀ x, x < n → inL L1 x → ga s 20 x = 0 → ∃ j, i + 1 ≤ j ∧ j < t ∧ kd j = 2 ∧ q j = x) → ∃ σ' s' L' W', f_W_takeTasks_117 N (f_W_takeTasks_2 N ic) (some c) (nI i) σ1 = some σ' ∧ f_M_workTasks_95 N (f_M_workTasks_2 N ir) (some m) (nI i) (rh b m t1) = some (rh b m s') ∧ Sim c o es n Q z W' L' B 0 σ' s' := by
          intro σ1 t1 L1 W1 y1 y2 y3 y4 y5 y6 y7 y8 y9 y10 y11 y12 y13 y14
          have hTk : Tk c es n L1 σ1 t1 t (i + 1) := by
            refine ⟨by omega, h2, y9, y6, by rw [y10]; exact y8, q, kd, va_up f i none, y7, fun j j1 j2 => ?_, fun j j1 j2 j3 r hr hm => y13 j j1 j2 j3 ⟨r, hr, hm⟩, fun j l j1 j2 l1 l2 => k2 j l (by omega) j2 (by omega) l2, fun e r he hr hm h0 => ?_⟩
            · have := h7 j (by omega) j2
              rw [y10, y11]
              refine ⟨this.1, this.2.1, ?_, this.2.2.2⟩
              unfold va_up; rw [if_neg (by omega)]; exact this.2.2.1
            · rw [y12] at h0
              exact y14 e he ⟨r, hr, hm⟩ h0
          obtain ⟨σ', s', L', W', f1, f2, r⟩ := ih (i + 1) ic ir σ1 t1 L1 W1 y1 y2 y3 y4 y5 hTk (by omega) (by omega) (by omega)
          rw [← nI_1] at f1 f2
          exact ⟨σ', s', L', W', f1, f2, r⟩
        have sub1 : ∀ (L1 : Nat → List Nat), (∀ x, inL L1 x → inL L x) → ∀ j, i + 1 ≤ j → j < t → kd j = 0 → ¬ inL L1 (q j) := by
          intro L1 hs j j1 j2 j3 hm
          obtain ⟨r, hr, hm'⟩ := hs _ hm
          exact k1 j (by omega) j2 j3 r hr hm'
        have sub2 : kd i ≠ 2 → ∀ x, x < n → inL L x → ga s 20 x = 0 → ∃ j, i + 1 ≤ j ∧ j < t ∧ kd j = 2 ∧ q j = x := by
          intro hk x hx hm h0
          obtain ⟨r, hr, hm'⟩ := hm
          obtain ⟨j, j1, j2, j3, j4⟩ := k3 x r hx hr hm' h0
          refine ⟨j, ?_, j2, j3, j4⟩
          rcases (show j = i ∨ i + 1 ≤ j by omega) with rfl | h
          · exact absurd j3 hk
          · exact h
        rcases (show kd i = 2 ∨ kd i = 1 ∨ kd i = 0 by omega) with hk | hk | hk
        · -- GONE
          rw [hk, show nI 2 = 2 from rfl] at p4
          rcases hRR.inq p1 with hz | ⟨r, hr, hgr, hm⟩
          · have hno := (hRR.room0 p1).mp hz
            have f1 := hI0.takeOut_no p1 hno
            have hrm : RM s (ua s 15 (q i) 0) := ⟨fun _ => rfl, fun k hk _ j => by simp [giui, giul, giua, giub, glui, glul, glua, glub, gaui, gaul, gaua, gaub, gbui, gbul, gbua, gbub, hk], fun _ _ => rfl, fun _ _ _ => rfl⟩
            have hRR1 : RR (ua s 15 (q i) 0) n L (B + 602 * k) := (hRR.le (by omega)).out p1 (fun x hx => (erase_no (hno x hx)).symm)
            obtain ⟨σ', s', L', W', f2, f3, r⟩ := fin σ0 (ua s 15 (q i) 0) L W (hR0.m37 M37.rf hrm) (by rw [hrm.wt]; exact hI0) hRR1 (hN00.m37 M37.rf hrm) (hN10.m37 M37.rf hrm) zI z8 z9 h3 (funext (hrm.2.1 25 (by decide) (by decide))) (funext (hrm.2.1 26 (by decide) (by decide))) (funext (hrm.2.1 20 (by decide) (by decide))) (sub1 L (fun _ z => z)) (fun x hx hm h0 => by
              obtain ⟨r, hr, hm'⟩ := hm
              obtain ⟨j, j1, j2, j3, j4⟩ := k3 x r hx hr hm' h0
              refine ⟨j, ?_, j2, j3, j4⟩
              rcases (show j = i ∨ i + 1 ≤ j by omega) with rfl | h
              · exact absurd (j4 ▸ hm') (hno r hr)
              · exact h)
            refine ⟨σ', s', L', W', ?_, ?_, r⟩
            · rw [eRun]
              simp [alI z9 hii, p4, ldR u0, u9, isO hI0.1.1, f1, f2]
            · simp [f_M_workTasks_2, ldIr hb, ldRr hb, h3, hlt, al26, al25, as15, hii, hie, p4, p5, f3]
          · obtain ⟨σ1, f1, j1, m1⟩ := hI0.takeOut hr hm
            have hrm : RM s (ua s 15 (q i) 0) := ⟨fun _ => rfl, fun k hk _ j => by simp [giui, giul, giua, giub, glui, glul, glua, glub, gaui, gaul, gaua, gaub, gbui, gbul, gbua, gbub, hk], fun _ _ => rfl, fun _ _ _ => rfl⟩
            obtain ⟨σ', s', L', W', f2, f3, r⟩ := fin σ1 (ua s 15 (q i) 0) _ W (hR0.m37 m1 hrm) (by rw [hrm.wt]; exact j1) ((hRR.le (by omega)).outq hr hm) (hN00.m37 m1 hrm) (hN10.m37 m1 hrm) (by rw [m1.2.2.2.2.1 9 _ _ (by decide)]; exact zI) (by rw [m1.2.2.1]; exact z8) (by rw [m1.2.2.1]; exact z9) h3 (funext (hrm.2.1 25 (by decide) (by decide))) (funext (hrm.2.1 26 (by decide) (by decide))) (funext (hrm.2.1 20 (by decide) (by decide))) (sub1 _ (fun x hx => (inL_out hRR hr hm hx).1)) (fun x hx hm' h0 => by
              obtain ⟨⟨r', hr', hm2⟩, hne⟩ := inL_out hRR hr hm hm'
              obtain ⟨j, j1, j2, j3, j4⟩ := k3 x r' hx hr' hm2 h0
              refine ⟨j, ?_, j2, j3, j4⟩
              rcases (show j = i ∨ i + 1 ≤ j by omega) with rfl | h
              · exact absurd j4.symm hne
              · exact h)
            refine ⟨σ', s', L', W', ?_, ?_, r⟩
            · rw [eRun]
              simp [alI z9 hii, p4, ldR u0, u9, isO hI0.1.1, f1, f2]
            · simp [f_M_workTasks_2, ldIr hb, ldRr hb, h3, hlt, al26, al25, as15, hii, hie, p4, p5, f3]
        · -- CHANGED
          rw [hk, show nI 1 = 1 from rfl] at p4
          have n12 : ¬ (1 : Int32) = 2 := by decide
          have n10 : ¬ (1 : Int32) = 0 := by decide
          rcases hRR.inq p1 with hz | ⟨r, hr, hgr, hm⟩
          · have hno := (hRR.room0 p1).mp hz
            obtain ⟨σ1, t1, W1, a1, a2, a3, a4, a5⟩ := hR0.2.2.2.2.2.2.2.1.add (b := b) (m := m) (N := N) hb hN (ga s 11 (q i))
            have hI1 := hI0.mc a4
            have f1 := hI1.touch_no (N := N) p1 hno
            obtain ⟨σ', s', L', W', f2, f3, r⟩ := fin σ1 t1 L W1 (hR0.mc a4 a5 a3) (by rw [show ga t1 13 = ga s 13 from funext (a5.2.1 13 (by decide))]; exact hI1) ((hRR.mc a5).le (by omega)) (hN00.mc (by decide) a4 a5) (hN10.mc (by decide) a4 a5) (by rw [a4.2.2.2.2.1 9 _ _ (by decide)]; exact zI) (by rw [a4.2.2.1 _ (by omega)]; exact z8) (by rw [a4.2.2.1 _ (by omega)]; exact z9) (by rw [a5.1 27 (by decide)]; exact h3) (funext (a5.2.1 25 (by decide))) (funext (a5.2.1 26 (by decide))) (funext (a5.2.1 20 (by decide))) (sub1 L (fun _ z => z)) (sub2 (by omega))
            have v0 : hp_C σ1 c = some 0 := by rw [a4.2.1]; exact u0
            have v5 : hp_R σ1 0 4 c = some (c + 7) := by rw [a4.2.2.2.2.2]; exact u5
            have v9 : hp_R σ1 0 8 c = some (c + 17) := by rw [a4.2.2.2.2.2]; exact u9
            have v13 : hp_C σ1 (c + 7) = some 9 := by rw [a4.2.1]; exact u13
            have v20 : hp_R σ1 9 1 (c + 7) = some (c + 9) := by rw [a4.2.2.2.2.2]; exact u20
            have zz9 : hp_A σ1 (c + 9) = some (0, 8, .inl (ga s 25)) := by rw [a4.2.2.1 _ (by omega)]; exact z9
            refine ⟨σ', s', L', W', ?_, ?_, r⟩
            · rw [eRun]
              simp [alI z9 hii, p4, ldR u0, u8, ldI hCe, hkey0, isO hR0.2.2.2.2.2.2.2.1.1, a1, ldR v0, v5, ldR v13, v20, alI zz9 hii, v9, isO hI1.1.1, f1, f2]
            · have g25 : ga t1 25 = ga s 25 := funext (a5.2.1 25 (by decide))
              have g15 : ga t1 15 (q i) = 0 := by rw [a5.2.1 15 (by decide)]; exact hz
              simp [f_M_workTasks_2, f_M_workTasks_71, ldIr hb, ldRr hb, h3, hlt, al26, al25, al15, al11, hii, hie, p4, p5, isOr hb, a2, g25, g15, f3]
          · obtain ⟨l0, lC⟩ := hR0.lims
            obtain ⟨σ1, t1, σ2, t2, L2, W2, a1, a2, a3, a4, a5, a6, a7, a8, a9, a10, a11, a12⟩ := touch_step (B := B + 602 * k) hb hN hR0 hI0 (hRR.le (by omega)) l0 lC hr hm (ga s 11 (q i))
            have g25 : ga t1 25 = ga s 25 := funext (a10.2.1 25 (by decide))
            obtain ⟨σ', s', L', W', f2, f3, r'⟩ := fin σ2 t2 L2 W2 a5 a6 a7 ((hN00.mc (by decide) a8 a10).m37 a9 a11) ((hN10.mc (by decide) a8 a10).m37 a9 a11) (by rw [a9.2.2.2.2.1 9 _ _ (by decide), a8.2.2.2.2.1 9 _ _ (by decide)]; exact zI) (by rw [a9.2.2.1, a8.2.2.1 _ (by omega)]; exact z8) (by rw [a9.2.2.1, a8.2.2.1 _ (by omega)]; exact z9) (by rw [a11.1 27, a10.1 27 (by decide)]; exact h3) (funext fun j => by rw [a11.2.1 25 (by decide) (by decide), a10.2.1 25 (by decide)]) (funext fun j => by rw [a11.2.1 26 (by decide) (by decide), a10.2.1 26 (by decide)]) (funext fun j => by rw [a11.2.1 20 (by decide) (by decide), a10.2.1 20 (by decide)]) (sub1 L2 a12) (fun x hx hm' h0 => sub2 (by omega) x hx (a12 x hm') h0)
            have v0 : hp_C σ1 c = some 0 := by rw [a8.2.1]; exact u0
            have v5 : hp_R σ1 0 4 c = some (c + 7) := by rw [a8.2.2.2.2.2]; exact u5
            have v9 : hp_R σ1 0 8 c = some (c + 17) := by rw [a8.2.2.2.2.2]; exact u9
            have v13 : hp_C σ1 (c + 7) = some 9 := by rw [a8.2.1]; exact u13
            have v17 : hp_C σ1 (c + 17) = some 8 := by rw [a8.2.1]; exact hI0.1.1
            have v20 : hp_R σ1 9 1 (c + 7) = some (c + 9) := by rw [a8.2.2.2.2.2]; exact u20
            have zz9 : hp_A σ1 (c + 9) = some (0, 8, .inl (ga s 25)) := by rw [a8.2.2.1 _ (by omega)]; exact z9
            refine ⟨σ', s', L', W', ?_, ?_, r'⟩
            · rw [eRun]
              simp [alI z9 hii, p4, ldR u0, u8, ldI hCe, hkey0, isO hR0.2.2.2.2.2.2.2.1.1, a1, ldR v0, v5, ldR v13, v20, alI zz9 hii, v9, isO v17, a3, f2]
            · have g15 : ga t1 15 (q i) = nI r := by rw [a10.2.1 15 (by decide)]; exact hgr
              have hz : ¬ nI r ≤ 0 := nI_nle hr.1 (by have := hr.2; omega)
              simp [f_M_workTasks_2, f_M_workTasks_71, ldIr hb, ldRr hb, h3, hlt, al26, al25, al15, al11, hii, hie, p4, p5, isOr hb, a2, g25, g15, hz, a4, f3]
        · -- NEW
          rw [hk, show nI 0 = 0 from rfl] at p4
          have hno : ∀ r, in3 r → q i ∉ L r := fun r hr => k1 i (Nat.le_refl _) (by omega) hk r hr
          obtain ⟨σ1, t1, W1, a1, a2, a3, a4, a5⟩ := hR0.2.2.2.2.2.2.2.1.add (b := b) (m := m) (N := N) hb hN (ga s 11 (q i))
          have hI1 := hI0.mc a4
          have hR1 := hR0.mc a4 a5 a3
          have w13 : ga t1 13 = ga s 13 := funext (a5.2.1 13 (by decide))
          have g25 : ga t1 25 = ga s 25 := funext (a5.2.1 25 (by decide))
          have g20 : ga t1 20 = ga s 20 := funext (a5.2.1 20 (by decide))
          have v0 : hp_C σ1 c = some 0 := by rw [a4.2.1]; exact u0
          have v5 : hp_R σ1 0 4 c = some (c + 7) := by rw [a4.2.2.2.2.2]; exact u5
          have v9 : hp_R σ1 0 8 c = some (c + 17) := by rw [a4.2.2.2.2.2]; exact u9
          have v13 : hp_C σ1 (c + 7) = some 9 := by rw [a4.2.1]; exact u13
          have v20 : hp_R σ1 9 1 (c + 7) = some (c + 9) := by rw [a4.2.2.2.2.2]; exact u20
          have zz9 : hp_A σ1 (c + 9) = some (0, 8, .inl (ga s 25)) := by rw [a4.2.2.1 _ (by omega)]; exact z9
          have h37 := (hR1.2.2.2.1 (q i) p1).2.2.2.1
          rw [g20] at h37
          have hCe1 := hI1.c3 p1
          rcases hR.2.2.2.2.2.2.2.2.2.2.1.2.2.2.1 (q i) p1 with hth | hth
          · rw [hth, if_pos rfl] at h37
            obtain ⟨σ', s', L', W', f2, f3, r⟩ := fin σ1 t1 L W1 hR1 (by rw [w13]; exact hI1) ((hRR.mc a5).le (by omega)) (hN00.mc (by decide) a4 a5) (hN10.mc (by decide) a4 a5) (by rw [a4.2.2.2.2.1 9 _ _ (by decide)]; exact zI) (by rw [a4.2.2.1 _ (by omega)]; exact z8) zz9 (by rw [a5.1 27 (by decide)]; exact h3) g25 (funext (a5.2.1 26 (by decide))) g20 (sub1 L (fun _ z => z)) (sub2 (by omega))
            refine ⟨σ', s', L', W', ?_, ?_, r⟩
            · rw [eRun]
              simp [alI z9 hii, p4, ldR u0, u8, ldI hCe, hkey0, isO hR0.2.2.2.2.2.2.2.1.1, a1, ldR v0, v5, ldR v13, v20, alI zz9 hii, ldI hCe1, h37, f2]
            · simp [f_M_workTasks_2, f_M_workTasks_71, ldIr hb, ldRr hb, h3, hlt, al26, al25, al20, al11, hii, hie, p4, p5, isOr hb, a2, g25, g20, hth, f3]
          · have n1 : ¬ (1 : Int32) = 0 := by decide
            rw [hth, if_neg n1] at h37
            obtain ⟨σ2, f1, j1, m1⟩ := hI1.add i1 p1 hno
            have hRR1 : RR (latS t1 (q i) 1) n (upL L 1 (L 1 ++ [q i])) (B + 602 * k) := RR.add (B := B + 602 * k) ((hRR.mc a5).le (by omega)) p1 i1 hno
            have hrm : RM t1 (latS t1 (q i) 1) := lat_RM
            have inU : ∀ x, inL (upL L 1 (L 1 ++ [q i])) x → inL L x ∨ x = q i := by
              rintro x ⟨r, hr, hm⟩
              by_cases hr1 : r = 1
              · subst hr1
                rw [upL_s] at hm
                rcases List.mem_append.mp hm with z | z
                · exact Or.inl ⟨1, hr, z⟩
                · exact Or.inr (by simpa using z)
              · rw [upL_n hr1] at hm; exact Or.inl ⟨r, hr, hm⟩
            obtain ⟨σ', s', L', W', f2, f3, r⟩ := fin σ2 (latS t1 (q i) 1) _ W1 (hR1.m37 m1 hrm) (by rw [hrm.wt, w13]; exact j1) hRR1 ((hN00.mc (by decide) a4 a5).m37 m1 hrm) ((hN10.mc (by decide) a4 a5).m37 m1 hrm) (by rw [m1.2.2.2.2.1 9 _ _ (by decide), a4.2.2.2.2.1 9 _ _ (by decide)]; exact zI) (by rw [m1.2.2.1, a4.2.2.1 _ (by omega)]; exact z8) (by rw [m1.2.2.1]; exact zz9) (by rw [hrm.1 27, a5.1 27 (by decide)]; exact h3) ((funext (hrm.2.1 25 (by decide) (by decide))).trans g25) ((funext (hrm.2.1 26 (by decide) (by decide))).trans (funext (a5.2.1 26 (by decide)))) ((funext (hrm.2.1 20 (by decide) (by decide))).trans g20) (fun j j1 j2 j3 hm => by
              rcases inU _ hm with ⟨r, hr, hm'⟩ | hm'
              · exact k1 j (by omega) j2 j3 r hr hm'
              · have := k2 j i (by omega) j2 (Nat.le_refl _) (by omega) j3 hk hm'
                omega) (fun x hx hm h0 => by
              rcases inU _ hm with hm' | hm'
              · exact sub2 (by omega) x hx hm' h0
              · rw [hm', hth] at h0; exact absurd h0 n1)
            refine ⟨σ', s', L', W', ?_, ?_, r⟩
            · rw [eRun]
              simp [alI z9 hii, p4, ldR u0, u8, ldI hCe, hkey0, isO hR0.2.2.2.2.2.2.2.1.1, a1, ldR v0, v5, ldR v13, v20, alI zz9 hii, ldI hCe1, h37, v9, ldR hI1.1.1, hI1.1.2.1, isO (hI1.c7 i1), f1, f2]
            · have hL := lat_run (b := b) (m := m) (s := t1) hb (e := q i) (by omega) (r := 1)
              have g25' : ga (latS t1 (q i) 1) 25 = ga s 25 := (funext (hrm.2.1 25 (by decide) (by decide))).trans g25
              simp [f_M_workTasks_2, f_M_workTasks_71, ldIr hb, ldRr hb, h3, hlt, al26, al25, al20, al11, hii, hie, p4, p5, isOr hb, a2, g25, g20, hth, hL, g25', f3]
theorem Sim.tasks (hb : hp_C b m = some 11) (hN : 10000 ≤ N) (h : Sim c o es n Q z W L (B + 5000) t σ s) : ∃ σ' s' L' W', f_W_takeTasks N (some c) σ = some σ' ∧ f_M_workTasks N (some m) (rh b m s) = some (rh b m s') ∧ Sim c o es n Q z W' L' B 0 σ' s' := by
  obtain ⟨hR, hI, hRR, hN0, hN1, hT⟩ := id h
  have h8 := hT.2.1
  obtain ⟨σ', s', L', W', f1, f2, r⟩ := tasks_loop (N := N) (B := B) hb hN t 0 N N σ s L W hR hI (hRR.le (by omega)) hN0 hN1 hT (by omega) (by omega) (by omega)
  rw [nI_0] at f1 f2
  exact ⟨σ', s', L', W', f1, f2, r⟩
/-- MAINTENANCE -/
theorem Sim.tidy (hb : hp_C b m = some 11) (hN : 10000 ≤ N) (h : Sim c o es n Q z W L (B + 30000) t σ s) : ∃ σ' s' L' W', f_W_tidy N (some c) σ = some σ' ∧ f_M_maintenance N (some m) (rh b m s) = some (rh b m s') ∧ Sim c o es n Q z W' L' B 0 σ' s' := by
  obtain ⟨σ1, σ2, s2, L2, W2, f1, sk1, f2, f3, h2⟩ := (h.le (B' := B + 10000 + 20000) (by omega)).notes hb hN
  obtain ⟨σ3, s3, L3, W3, f4, f5, h3⟩ := (h2.le (B' := B + 5000 + 5000) (by omega)).tasks hb hN
  obtain ⟨σ4, s4, L4, f6, f7, h4⟩ := h3.expire hb (N := N) (by omega)
  obtain ⟨f, σ5, σ6, s6, L6, f8, sk5, f9, f10, h6⟩ := (h4.le (B' := B + 2000 + 600) (by omega)).shrink hb (N := N) (by omega)
  obtain ⟨σ7, s7, L7, f11, f12, h7⟩ := h6.climb hb (N := N) (by omega)
  refine ⟨σ7, s7, L7, W3, ?_, ?_, h7⟩
  · have k := h.1.1
    have k2 := h2.1.1
    have k3 := h3.1.1
    have k4 := h4.1.1
    have k6 := h6.1.1
    simp [f_W_tidy, ldR k.1, k.2.2.2.1, isO k.1, f1, ldR sk1.1, sk1.2.2.2.2.1, isO sk1.1, f2, isO k2.1, f4, isO k3.1, f6, ldR k4.1, k4.2.2.2.2.2.2.2.2.2.1, isO h4.2.1.1.1, f8, pb, isO sk5.1, f9, isO k6.1, f11]
  · simp [f_M_maintenance, isOr hb, f3, f5, f7, f10, f12]
end TS
