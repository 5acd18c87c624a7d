/-! NOTES and TASKS worked off -/
section BF
variable {b σ σ' : Hp} {m c n Q z N B B' t : Nat} {o : Nat × (Nat → Int32)} {es : Nat → Nat} {W : Nat → Int32} {s s' : RS} {L L' : Nat → List Nat}
theorem Rest.upA {a : Nat} {x : Nat × vp_A} (h : Rest c o es n Q z W σ s) (ha : a = c + 4 ∨ a = c + 6 ∨ a = c + 8 ∨ a = c + 9) : Rest c o es n Q z W (up_A σ a x) s := by
  obtain ⟨h1, h2, h2b, h3, h4, h5, h6, h7, h8, h9, h10, h11⟩ := h
  have hA : ∀ y, y ≠ c + 4 → y ≠ c + 6 → y ≠ c + 8 → y ≠ c + 9 → hp_A (up_A σ a x) y = hp_A σ y := fun y p q r u => by rw [hA_A, if_neg (by omega)]
  refine ⟨h1, h2, h2b, h3, ?_, ?_, ?_, ?_, ?_, h9, h10, h11⟩
  · unfold MP at *; rw [hA _ (by omega) (by omega) (by omega) (by omega)]; exact h4
  · unfold WY WYk at *; rw [hA _ (by omega) (by omega) (by omega) (by omega)]; exact h5
  · unfold LGt at *; rw [hA _ (by omega) (by omega) (by omega) (by omega), hA _ (by omega) (by omega) (by omega) (by omega), hA _ (by omega) (by omega) (by omega) (by omega)]; exact h6
  · unfold CTT at *; rw [hA _ (by omega) (by omega) (by omega) (by omega)]; exact h7
  · unfold Out at *; rw [hA _ (by omega) (by omega) (by omega) (by omega)]; exact h8
theorem RI.upA {a : Nat} {x : Nat × vp_A} {wt : Nat → Int32} (h : RI σ c es n wt L) : RI (up_A σ a x) c es n wt L := by
  obtain ⟨h1, h2, h3, h4, h5, h6, h7⟩ := h
  refine ⟨h1, fun r hr => ⟨?_, (h2 r hr).2⟩, h3, h4, h5, h6, h7⟩
  obtain ⟨c1, c2, c3, c4, c5, c6⟩ := (h2 r hr).1
  exact ⟨c1, c2, c3, c4, seg_congr (σ := σ) (fun b _ => ⟨rfl, rfl, rfl, rfl⟩) c5, c6⟩
theorem RI.upI {y k a : Nat} {x : Int32} {wt : Nat → Int32} (h : RI σ c es n wt L) (hy : y ≠ 7) (hy3 : y ≠ 3 ∨ k ≠ 2) : RI (up_I σ y k a x) c es n wt L := by
  obtain ⟨h1, h2, h3, h4, h5, h6, h7⟩ := h
  have I7 : ∀ k' b', hp_I (up_I σ y k a x) 7 k' b' = hp_I σ 7 k' b' := fun k' b' => by rw [hI_I, if_neg (fun z => hy z.1.symm)]
  have I32 : ∀ b', hp_I (up_I σ y k a x) 3 2 b' = hp_I σ 3 2 b' := fun b' => by rw [hI_I, if_neg (by omega)]
  refine ⟨h1, fun r hr => ⟨?_, by rw [I7]; exact (h2 r hr).2⟩, h3, h4, fun e he => by rw [I32]; exact h5 e he, h6, h7⟩
  obtain ⟨c1, c2, c3, c4, c5, c6⟩ := (h2 r hr).1
  exact ⟨c1, c2, c3, by rw [I7]; exact c4, seg_congr (σ := σ) (fun b _ => ⟨rfl, rfl, rfl, rfl⟩) c5, c6⟩
/-- one key counted and its entry touched -/
theorem touch_step (hb : hp_C b m = some 11) (hN : 10000 ≤ N) (hR : Rest c o es n Q z W σ s) (hI : RI σ c es n (ga s 13) L) (hRR : RR s n L (B + 601)) (hlim : 0 ≤ limR s) (hlimC : limC σ c = limR s) {e q : Nat} (hq : in3 q) (he : e ∈ L q) (key : Int32) : ∃ σ1 s1 σ2 s2 L2 W2, f_Co_add N (some (c + 15)) key σ = some σ1 ∧ f_M_count1 N (some m) key (rh b m s) = some (rh b m s1) ∧ f_Rs_touch N (some (c + 17)) (some (es e)) σ1 = some σ2 ∧ f_M_touched N (some m) (nI e) (rh b m s1) = some (rh b m s2) ∧ Rest c o es n Q z W2 σ2 s2 ∧ RI σ2 c es n (ga s2 13) L2 ∧ RR s2 n L2 B ∧ MC c σ σ1 ∧ M37 σ1 σ2 ∧ RC s s1 ∧ RM s1 s2 ∧ ∀ x, inL L2 x → inL L x := by
  have h600 := hRR.2.1
  obtain ⟨σ1, s1, W1, f1, f2, c1, m1, r1⟩ := hR.2.2.2.2.2.2.2.1.add (b := b) (m := m) (N := N) hb hN key
  have w13 : ga s1 13 = ga s 13 := funext (r1.2.1 13 (by decide))
  have hI1 := hI.mc m1
  obtain ⟨σ2, f3, j3, m3⟩ := hI1.touch (N := N) h600 (by omega) hq he
  have hRR1 := hRR.mc r1
  have l1 : limR s1 = limR s := by unfold limR; rw [r1.1 1 (by decide), r1.1 32 (by decide)]
  have l2 : limC σ1 c = limC σ c := by unfold limC; rw [m1.2.2.2.2.1 8 _ _ (by decide), m1.2.2.2.2.1 8 _ _ (by decide)]
  obtain ⟨s2, f4, r4, m4⟩ := hRR1.touched hb hq he (N := N) (by omega) (by rw [l1]; exact hlim)
  rw [l2, hlimC] at j3
  rw [l1, w13] at r4
  refine ⟨σ1, s1, σ2, s2, _, W1, f1, f2, f3, f4, (hR.mc m1 r1 c1).m37 m3 m4, ?_, r4, m1, m3, r1, m4, fun x hx => inL_touch hq he hx⟩
  rw [m4.wt, w13]; exact j3
theorem Rest.lims (h : Rest c o es n Q z W σ s) : 0 ≤ limR s ∧ limC σ c = limR s := by
  have hS := h.2.1
  obtain ⟨-, ⟨mx, w, st, r, a, d, g1, g2, g3, g4, g5, g6, -⟩, -⟩ := h.2.2.2.2.2.2.2.2.2.2.2
  constructor
  · unfold limR
    rw [g1, g4, pk_sub g6, show (4 : Int32) = nI 4 from rfl, pk_mul, show (5 : Int32) = nI 5 from rfl, pk_div (by omega) (by decide) (by decide)]
    exact nI_pos' (by omega)
  · unfold limC limR
    rw [hS.2.2.2.2.2.2.2.2.1, hS.2.2.2.2.2.2.2.2.2.1]
theorem Nt.upA {a d i : Nat} {x : Nat × vp_A} (h : Nt c es n σ s d i) (ha : a ≠ c + 4 + 2 * d) : Nt c es n (up_A σ a x) s d i := by
  unfold Nt at *
  rw [hA_A, if_neg (fun z => ha z.symm)]; exact h
theorem Tk.upA {a i : Nat} {x : Nat × vp_A} (h : Tk c es n L σ s t i) (h8 : a ≠ c + 8) (h9 : a ≠ c + 9) : Tk c es n L (up_A σ a x) s t i := h.to rfl (by rw [hA_A, if_neg (fun z => h8 z.symm)]) (by rw [hA_A, if_neg (fun z => h9 z.symm)]) rfl rfl rfl (fun _ z => z) (fun _ _ _ z => z)
theorem notes_loop (hb : hp_C b m = some 11) (hN : 10000 ≤ N) {d : Nat} (hd : d < 2) {rec2 : Option Nat → Int32 → Hp → Option Hp} : ∀ (k i ic ir : Nat) (σ : Hp) (s : RS) (L : Nat → List Nat) (W : Nat → Int32), Rest c o es n Q z W σ s → RI σ c es n (ga s 13) L → RR s n L (B + 601 * k) → Nt c es n σ s d i → ga s 24 d = nI (i + k) → i + k ≤ 16 → Nt c es n σ s (1 - d) 0 → Tk c es n L σ s t 0 → k < ic → k < ir → ∃ σ' s' L' W', f_W_takeNotes_2 N ic (some c) (some (c + 3 + 2 * d)) (nI i) σ = some σ' ∧ f_M_workNotes_9 N rec2 ir (some m) (nI d) (nI i) (rh b m s) = rec2 (some m) (nI (d + 1)) (rh b m s') ∧ Rest c o es n Q z W' σ' s' ∧ RI σ' c es n (ga s' 13) L' ∧ RR s' n L' B ∧ Nt c es n σ' s' d 0 ∧ Nt c es n σ' s' (1 - d) 0 ∧ Tk c es n L' σ' s' t 0 := by
  intro k
  induction k with
  | zero =>
    intro i ic ir σ s L W hR hI hRR hNd h24 hi16 hNo hT hic hir
    cases ic with
    | zero => omega
    | succ ic =>
      cases ir with
      | zero => omega
      | succ ir =>
        obtain ⟨t', q, f, g1, g2, g3, g4, g5, g6⟩ := id hNd
        have ht : t' = i := by rw [h24, Nat.add_zero] at g3; exact ((nI_eq (by omega) (by omega)).mp g3).symm
        subst ht
        have hC6 : hp_C σ (c + 3 + 2 * d) = some 6 := by
          rcases (show d = 0 ∨ d = 1 by omega) with rfl | rfl
          · exact hR.1.2.2.2.2.2.2.2.2.2.2.2.1
          · exact hR.1.2.2.2.2.2.2.2.2.2.2.2.2.1
        have hle : nI t' ≤ nI t' := Int32.le_refl _
        have hid : ix_ (nI d) 2 = some d := ixN hd (by decide)
        refine ⟨up_I σ 6 1 (c + 3 + 2 * d) 0, ua s 24 d 0, L, W, ?_, ?_, ?_, ?_, ?_, ?_, ?_, ?_⟩
        · simp [f_W_takeNotes_2, ldI hC6, g4, hle, stI hC6]
        · simp [f_M_workNotes_9, ldRr hb, al24, as24, hid, g3, hle, nI_1]
        · obtain ⟨h1, h2, h2b, h3, h4, h5, h6, h7, h8, h9, h10, h11⟩ := id hR
          have hI' : ∀ x k' a, (x ≠ 6 ∨ k' ≠ 1) → hp_I (up_I σ 6 1 (c + 3 + 2 * d) 0) x k' a = hp_I σ x k' a := fun x k' a hx => by rw [hI_I, if_neg (by omega)]
          have ga' : ∀ k', k' ≠ 24 → ga (ua s 24 d 0) k' = ga s k' := fun k' hk' => funext fun j => by simp [giui, giul, giua, giub, glui, glul, glua, glub, gaui, gaul, gaua, gaub, gbui, gbul, gbua, gbub, hk']
          refine ⟨h1, ?_, ?_, ?_, ?_, ?_, ?_, ?_, h8, h9, ?_, h11⟩
          · obtain ⟨q1, q2, q3, q4, q5, q6, q7, q8, q9, q10, q11⟩ := h2
            exact ⟨q1, q2, q3, q4, q5, q6, q7, q8, q9, q10, by rw [hI' _ _ _ (Or.inr (by decide)), hI' _ _ _ (Or.inr (by decide))]; exact q11⟩
          · exact h2b
          · intro e he
            have := h3 e he
            unfold en fe lbt at *
            exact this
          · exact h4
          · exact h5
          · exact h6
          · exact h7
          · exact h10
        · exact hI.upI (by decide) (Or.inl (by decide))
        · unfold RR at *
          exact hRR
        · refine ⟨0, q, f, by omega, by omega, by simp [giui, giul, giua, giub, glui, glul, glua, glub, gaui, gaul, gaua, gaub, gbui, gbul, gbua, gbub, nI_0], by simp [hI_I, nI_0], g5, fun j _ h2 => by omega⟩
        · unfold Nt at *
          have e1 : ga (ua s 24 d 0) 24 (1 - d) = ga s 24 (1 - d) := by simp [giui, giul, giua, giub, glui, glul, glua, glub, gaui, gaul, gaua, gaub, gbui, gbul, gbua, gbub]; omega
          have e2 : hp_I (up_I σ 6 1 (c + 3 + 2 * d) 0) 6 1 (c + 3 + 2 * (1 - d)) = hp_I σ 6 1 (c + 3 + 2 * (1 - d)) := by rw [hI_I, if_neg (by omega)]
          have e3 : ∀ j, ga (ua s 24 d 0) 23 j = ga s 23 j := fun j => by simp [giui, giul, giua, giub, glui, glul, glua, glub, gaui, gaul, gaua, gaub, gbui, gbul, gbua, gbub]
          simp only [e1, e2, e3]
          exact hNo
        · exact hT.to (by rw [hI_I, if_neg (by omega)]) rfl rfl rfl rfl rfl (fun _ z => z) (fun _ _ _ z => z)
  | succ k ih =>
    intro i ic ir σ s L W hR hI hRR hNd h24 hi16 hNo hT hic hir
    cases ic with
    | zero => omega
    | succ ic =>
      cases ir with
      | zero => omega
      | succ ir =>
        have h600 := hRR.2.1
        obtain ⟨t', q, f, g1, g2, g3, g4, g5, g6⟩ := id hNd
        have ht : t' = i + (k + 1) := by rw [h24] at g3; exact ((nI_eq (by omega) (by omega)).mp g3).symm
        subst ht
        have hC6 : hp_C σ (c + 3 + 2 * d) = some 6 := by
          rcases (show d = 0 ∨ d = 1 by omega) with rfl | rfl
          · exact hR.1.2.2.2.2.2.2.2.2.2.2.2.1
          · exact hR.1.2.2.2.2.2.2.2.2.2.2.2.2.1
        have hR6 : hp_R σ 6 0 (c + 3 + 2 * d) = some (c + 4 + 2 * d) := by
          rcases (show d = 0 ∨ d = 1 by omega) with rfl | rfl
          · exact hR.1.2.2.2.2.2.2.2.2.2.2.2.2.2.2.2.2.2.1
          · exact hR.1.2.2.2.2.2.2.2.2.2.2.2.2.2.2.2.2.2.2.1
        have hlt : ¬ nI (i + (k + 1)) ≤ nI i := nI_ge (by omega) (by omega)
        have hid : ix_ (nI d) 2 = some d := ixN hd (by decide)
        have hii : ix_ (nI i) 16 = some i := ixN (by omega) (by decide)
        have hi32 : ix_ (nI (16 * d + i)) 32 = some (16 * d + i) := ixN (by omega) (by decide)
        obtain ⟨p1, p2, p3⟩ := g6 i (Nat.le_refl _) (by omega)
        generalize he : q i = e at *
        have hie : ix_ (nI e) 1100 = some e := ixN (by omega) (by decide)
        have hCe := hI.c3 p1
        have hkey := (hR.2.2.2.1 e p1).1
        have h16 : 16 * nI d = nI (16 * d) := pk_mul 16 d
        obtain ⟨k0, k1, k2, k3, k4, k5, k6, k7, k8, k9, -⟩ := id hR.1
        have hN1d : c + 4 + 2 * d ≠ c + 4 + 2 * (1 - d) := by omega
        -- the note nulled
        have fin : ∀ (σ1 : Hp) (s1 : RS) (L1 : Nat → List Nat) (W1 : Nat → Int32), Rest c o es n Q z W1 σ1 s1 → RI σ1 c es n (ga s1 13) L1 → RR s1 n L1 (B + 601 * k) → Nt c es n σ1 s1 d i → ga s1 24 d = nI (i + (k + 1)) → Nt c es n σ1 s1 (1 - d) 0 → Tk c es n L1 σ1 s1 t 0 → ∃ σ' s' L' W', f_W_takeNotes_47 N (f_W_takeNotes_2 N ic) (some c) (some (c + 3 + 2 * d)) (nI i) σ1 = some σ' ∧ f_M_workNotes_58 N rec2 (f_M_workNotes_9 N rec2 ir) (some m) (nI d) (nI i) (rh b m s1) = rec2 (some m) (nI (d + 1)) (rh b m s') ∧ Rest c o es n Q z W' σ' s' ∧ RI σ' c es n (ga s' 13) L' ∧ RR s' n L' B ∧ Nt c es n σ' s' d 0 ∧ Nt c es n σ' s' (1 - d) 0 ∧ Tk c es n L' σ' s' t 0 := by
          intro σ1 s1 L1 W1 hR1 hI1 hRR1 hNd1 h241 hNo1 hT1
          obtain ⟨t1, q1, f1, x1, x2, x3, x4, x5, x6⟩ := id hNd1
          have hC1 : hp_C σ1 (c + 3 + 2 * d) = some 6 := by
            rcases (show d = 0 ∨ d = 1 by omega) with rfl | rfl
            · exact hR1.1.2.2.2.2.2.2.2.2.2.2.2.1
            · exact hR1.1.2.2.2.2.2.2.2.2.2.2.2.2.1
          have hr1 : hp_R σ1 6 0 (c + 3 + 2 * d) = some (c + 4 + 2 * d) := by
            rcases (show d = 0 ∨ d = 1 by omega) with rfl | rfl
            · exact hR1.1.2.2.2.2.2.2.2.2.2.2.2.2.2.2.2.2.2.1
            · exact hR1.1.2.2.2.2.2.2.2.2.2.2.2.2.2.2.2.2.2.2.1
          have hcc : c + 4 + 2 * d = c + 4 ∨ c + 4 + 2 * d = c + 6 ∨ c + 4 + 2 * d = c + 8 ∨ c + 4 + 2 * d = c + 9 := by omega
          have ht1 : t1 = i + (k + 1) := by rw [h241] at x3; exact ((nI_eq (by omega) (by omega)).mp x3).symm
          obtain ⟨σ', s', L', W', y1, y2, y3⟩ := ih (i + 1) ic ir (up_A σ1 (c + 4 + 2 * d) (3, 16, .inr (.inr (.inr (.inr (va_up f1 i none)))))) s1 L1 W1 (hR1.upA hcc) hI1.upA hRR1 ⟨t1, q1, va_up f1 i none, by omega, x2, x3, x4, by rw [hA_A, if_pos rfl], fun j j1 j2 => by
            have := x6 j (by omega) j2
            refine ⟨this.1, ?_, this.2.2⟩
            unfold va_up; rw [if_neg (by omega)]; exact this.2.1⟩ (by rw [h241]; congr 1; omega) (by omega) (hNo1.upA hN1d) (hT1.upA (by omega) (by omega)) (by omega) (by omega)
          rw [← nI_1] at y1 y2
          refine ⟨σ', s', L', W', ?_, ?_, y3⟩
          · simp only [f_W_takeNotes_47, ldR hC1, hr1, Option.bind_some, asR0 x5 hii]
            exact y1
          · simp only [f_M_workNotes_58]
            exact y2
        rcases hRR.inq p1 with hz | ⟨r, hr, hgr, hm⟩
        · -- in no room
          have hno := (hRR.room0 p1).mp hz
          obtain ⟨σ', s', L', W', y1, y2, y3⟩ := fin σ s L W hR hI (hRR.le (by omega)) hNd h24 hNo hT
          refine ⟨σ', s', L', W', ?_, ?_, y3⟩
          · have h8 := hI.2.2.2.2.2.1 e p1 hno
            simp [f_W_takeNotes_2, ldI hC6, g4, hlt, ldR hC6, hR6, alR g5 hii, p2, ldR hCe, h8, y1]
          · simp [f_M_workNotes_9, ldRr hb, al24, al23, al15, hid, h16, nI_add, hi32, hie, g3, hlt, p3, hz, y2]
        · obtain ⟨l0, lC⟩ := hR.lims
          obtain ⟨σ1, s1, σ2, s2, L2, W2, a1, a2, a3, a4, a5, a6, a7, a8, a9, a10, a11, a12⟩ := touch_step (B := B + 601 * k) hb hN hR hI (hRR.le (by omega)) l0 lC hr hm (ga s 11 e)
          have h242 : ga s2 24 d = nI (i + (k + 1)) := by rw [a11.2.1 24 (by decide) (by decide), a10.2.1 24 (by decide)]; exact h24
          obtain ⟨σ', s', L', W', y1, y2, y3⟩ := fin σ2 s2 L2 W2 a5 a6 a7 ((hNd.mc hd a8 a10).m37 a9 a11) h242 ((hNo.mc (by omega) a8 a10).m37 a9 a11) ((hT.mc a8 a10).m37 a9 a11 a12)
          refine ⟨σ', s', L', W', ?_, ?_, y3⟩
          · have h8 := hI.inR hr hm
            have c15 := hR.2.2.2.2.2.2.2.1.1
            have k91 : hp_R σ1 0 8 c = some (c + 17) := by rw [a8.2.2.2.2.2]; exact k9
            have k01 : hp_C σ1 c = some 0 := by rw [a8.2.1]; exact k0
            have c171 : hp_C σ1 (c + 17) = some 8 := by rw [a8.2.1]; exact hI.1.1
            simp [f_W_takeNotes_2, ldI hC6, g4, hlt, ldR hC6, hR6, alR g5 hii, p2, ldR hCe, h8, ldR k0, k8, ldI hCe, hkey, isO c15, a1, ldR k01, k91, isO c171, a3, y1]
          · have hz : ¬ nI r = 0 := nI_ne0 hr.1 (by have := hr.2; omega)
            simp [f_M_workNotes_9, ldRr hb, al24, al23, al15, al11, hid, h16, nI_add, hi32, hie, g3, hlt, p3, hgr, hz, isOr hb, a2, a4, y2]
theorem wn_step {i : Nat} {v : Int32} {τ : Hp} {v0 : Option Nat} : f_M_workNotes_2 N (i + 1) v0 v τ = if 2 ≤ v then some τ else f_M_workNotes_9 N (f_M_workNotes_2 N i) N v0 v 0 τ := rfl
theorem Sim.notes (hb : hp_C b m = some 11) (hN : 10000 ≤ N) (h : Sim c o es n Q z W L (B + 20000) t σ s) : ∃ σ1 σ2 s' L' W', f_W_takeNotes N (some c) (some (c + 3)) σ = some σ1 ∧ SK σ1 c ∧ f_W_takeNotes N (some c) (some (c + 5)) σ1 = some σ2 ∧ f_M_workNotes N (some m) (rh b m s) = some (rh b m s') ∧ Sim c o es n Q z W' L' B t σ2 s' := by
  obtain ⟨hR, hI, hRR, hN0, hN1, hT⟩ := id h
  obtain ⟨t0, q0, f0, x1, x2, x3, -⟩ := id hN0
  cases N with
  | zero => omega
  | succ N0 =>
  cases N0 with
  | zero => omega
  | succ N1 =>
  cases N1 with
  | zero => omega
  | succ N2 =>
  obtain ⟨σ1, s1, L1, W1, y1, y2, z1, z2, z3, z4, z5, z6⟩ := notes_loop (B := B + 9616) (N := N2 + 1 + 1 + 1) (rec2 := f_M_workNotes_2 (N2 + 1 + 1 + 1) (N2 + 1 + 1)) hb hN (d := 0) (by decide) t0 0 (N2 + 1 + 1 + 1) (N2 + 1 + 1 + 1) σ s L W hR hI (hRR.le (by omega)) hN0 (by rw [Nat.zero_add]; exact x3) (by omega) hN1 hT (by omega) (by omega)
  obtain ⟨t1, q1, f1, w1, w2, w3, -⟩ := id z5
  obtain ⟨σ2, s2, L2, W2, y3, y4, v1, v2, v3, v4, v5, v6⟩ := notes_loop (B := B) (N := N2 + 1 + 1 + 1) (rec2 := f_M_workNotes_2 (N2 + 1 + 1 + 1) (N2 + 1)) hb hN (d := 1) (by decide) t1 0 (N2 + 1 + 1 + 1) (N2 + 1 + 1 + 1) σ1 s1 L1 W1 z1 z2 (z3.le (by omega)) z5 (by rw [Nat.zero_add]; exact w3) (by omega) z4 z6 (by omega) (by omega)
  rw [nI_0] at y1 y2 y3 y4
  refine ⟨σ1, σ2, s2, L2, W2, ?_, z1.1, ?_, ?_, v1, v2, v3, v5, v4, v6⟩
  · exact y1
  · exact y3
  · have e0 : ¬ (2 : Int32) ≤ 0 := by decide
    have e1 : ¬ (2 : Int32) ≤ nI 1 := by decide
    have e2 : (2 : Int32) ≤ nI 2 := by decide
    rw [f_M_workNotes, wn_step, if_neg e0, y2, wn_step, Nat.zero_add, if_neg e1, y4, wn_step, if_pos e2]
end BF
