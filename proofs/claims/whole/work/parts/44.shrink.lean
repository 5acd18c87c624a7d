/-! SHRINK and EVICT -/
def R21 (s s' : RS) : Prop := (∀ k, gi s' k = gi s k) ∧ (∀ k, k ≠ 21 → ∀ j, ga s' k j = ga s k j) ∧ (∀ k, gl s' k = gl s k) ∧ ∀ k j, gb s' k j = gb s k j
theorem R21.up {s : RS} {e : Nat} {x : Int32} : R21 s (ua s 21 e x) := ⟨fun _ => rfl, fun k hk j => by rw [gaua, if_neg (fun z => hk z.1)], fun _ => rfl, fun _ _ => rfl⟩
theorem R21.rm {s s' : RS} (h : R21 s s') : RM s s' := ⟨h.1, fun k _ hk j => h.2.1 k hk j, fun k _ => h.2.2.1 k, fun k _ j => h.2.2.2 k j⟩
/-- the marks: of the entries l, those of C are candidates -/
def fl (s : RS) (l C : List Nat) : Prop := ∀ e ∈ l, ga s 21 e = if e ∈ C then 1 else 0
section SH
variable {b σ σ' : Hp} {m c n Q z N B B' t : Nat} {o : Nat × (Nat → Int32)} {es : Nat → Nat} {W : Nat → Int32} {s s' : RS} {L L' : Nat → List Nat}
theorem RR.f21 (h : RR s n L B) (r : R21 s s') : RR s' n L B := by
  unfold RR at *
  simp only [r.1, r.2.1 15 (by decide), r.2.2.1, r.2.2.2]; exact h
theorem clr_loop (hb : hp_C b m = some 11) (hn : n ≤ 600) : ∀ (i j : Nat) (s : RS), gi s 10 = nI n → j ≤ n → n - j < i → ∃ s', f_M_shrink_2 N i (some m) (nI j) (rh b m s) = f_M_shrink_23 N N (some m) (rh b m s') ∧ R21 s s' ∧ (∀ e, j ≤ e → e < n → ga s' 21 e = 0) ∧ ∀ e, e < j → ga s' 21 e = ga s 21 e := by
  intro i
  induction i with
  | zero => intro j s _ _ hi; omega
  | succ i ih =>
    intro j s h10 hj hi
    by_cases hjn : j = n
    · subst hjn
      have hle : nI j ≤ nI j := Int32.le_refl _
      exact ⟨s, by simp [f_M_shrink_2, ldIr hb, h10, hle], ⟨fun _ => rfl, fun _ _ _ => rfl, fun _ => rfl, fun _ _ => rfl⟩, fun e h1 h2 => by omega, fun _ _ => rfl⟩
    · have hlt : ¬ nI n ≤ nI j := nI_ge (by omega) (by omega)
      have hij : ix_ (nI j) 1100 = some j := ixN (by omega) (by omega)
      obtain ⟨s', f1, r1, r2, r3⟩ := ih (j + 1) (ua s 21 j 0) h10 (by omega) (by omega)
      rw [← nI_1] at f1
      refine ⟨s', by simp [f_M_shrink_2, ldIr hb, ldRr hb, h10, hlt, as21z0, hij, f1], ⟨r1.1, fun k hk i => (r1.2.1 k hk i).trans (R21.up.2.1 k hk i), r1.2.2.1, r1.2.2.2⟩, fun e h1 h2 => ?_, fun e he => ?_⟩
      · by_cases hej : e = j
        · subst hej
          rw [r3 e (by omega)]; simp [giui, giul, giua, giub, glui, glul, glua, glub, gaui, gaul, gaua, gaub, gbui, gbul, gbua, gbub]
        · exact r2 e (by omega) h2
      · rw [r3 e (by omega)]; simp [giui, giul, giua, giub, glui, glul, glua, glub, gaui, gaul, gaua, gaub, gbui, gbul, gbua, gbub]; omega
theorem spillR (hb : hp_C b m = some 11) (hN : 1000 ≤ N) (lim : Int32) (hlim : 0 ≤ lim) : ∀ (i k : Nat) (s : RS) (L : Nat → List Nat) (C : List Nat), RR s n L (B + k) → gi s 32 = lim → k = (L 1).length → k < i → (∃ l0, L 2 = l0 ++ C) → fl s (L 2) C → ∃ s' C', f_M_shrink_23 N i (some m) (rh b m s) = f_M_shrink_57 N N (some m) (rh b m s') ∧ RR s' n (spillL (ga s 13) lim k L) B ∧ RM s s' ∧ (∃ l0, spillL (ga s 13) lim k L 2 = l0 ++ C') ∧ fl s' (spillL (ga s 13) lim k L 2) C' ∧ C'.head? = C.head?.or (if sw (ga s 13) (L 1) ≤ lim then none else (L 1).head?) := by
  intro i
  induction i with
  | zero => intro k s L C _ _ _ hi; omega
  | succ i ih =>
    intro k s L C h h32 hk hi hl0 hfl
    have h600 := h.2.1
    have hw := h.weight hb i1 hN
    rw [show nI 1 = 1 from rfl] at hw
    cases k with
    | zero =>
      have h1 : L 1 = [] := List.length_eq_zero_iff.mp hk.symm
      refine ⟨s, C, ?_, h, RM.rf, hl0, hfl, ?_⟩
      · rw [h1] at hw
        simp [f_M_shrink_23, isOr hb, hw, pb, ldIr hb, h32, sw, hlim]
      · rw [h1]; simp
    | succ k =>
      cases h1 : L 1 with
      | nil => rw [h1] at hk; cases hk
      | cons e l =>
        by_cases hwl : sw (ga s 13) (L 1) ≤ lim
        · have e1 : spillL (ga s 13) lim (k + 1) L = L := by simp only [spillL, h1]; rw [h1] at hwl; rw [if_pos hwl]
          rw [e1, ← h1, if_pos hwl, Option.or_none]
          refine ⟨s, C, ?_, h.le (by omega), RM.rf, hl0, hfl, rfl⟩
          simp [f_M_shrink_23, isOr hb, hw, pb, ldIr hb, h32, hwl]
        · have he : e ∈ L 1 := by rw [h1]; simp
          have hen := h.2.2.2.1 1 i1 e he
          have hE := h.earliest hb i1 hN
          rw [h1, show nI 1 = 1 from rfl] at hE
          have h' : RR (latS s e 2) n (mv L e 1 2) (B + k) := RR.mv (B := B + k) (by rw [Nat.add_assoc]; exact h) i1 i2 he
          have e2 : mv L e 1 2 2 = L 2 ++ [e] := mv_r (by decide)
          obtain ⟨l0, hl0⟩ := hl0
          obtain ⟨s', C', f1, r1, m1, r2, r3, r4⟩ := ih k (ua (latS s e 2) 21 e 1) (mv L e 1 2) (C ++ [e]) (h'.f21 R21.up) h32 (by rw [mv_len h1 (by decide)]; rw [h1] at hk; simpa using hk) (by omega) ⟨l0, by rw [e2, hl0, List.append_assoc]⟩ (by
            intro d hd
            rw [e2] at hd
            rcases List.mem_append.mp hd with hd | hd
            · have hde : d ≠ e := fun z => by
                have := h.one i1 i2 he (z ▸ hd)
                omega
              have := hfl d hd
              have e3 : ga (ua (latS s e 2) 21 e 1) 21 d = ga s 21 d := by simp [latS, giui, giul, giua, giub, glui, glul, glua, glub, gaui, gaul, gaua, gaub, gbui, gbul, gbua, gbub, hde]
              rw [e3, this]
              by_cases hdC : d ∈ C
              · rw [if_pos hdC, if_pos (by simp [hdC])]
              · rw [if_neg hdC, if_neg (by simp [hdC, hde])]
            · have : d = e := by simpa using hd
              subst this
              rw [if_pos (by simp)]; simp [giui, giul, giua, giub, glui, glul, glua, glub, gaui, gaul, gaua, gaub, gbui, gbul, gbua, gbub])
          have w1 : ga (ua (latS s e 2) 21 e 1) 13 = ga s 13 := (lat_RM.trans R21.up.rm).wt
          rw [w1] at r1 r2 r3
          have e4 : spillL (ga s 13) lim (k + 1) L = spillL (ga s 13) lim k (mv L e 1 2) := by simp only [spillL, h1]; rw [h1] at hwl; rw [if_neg hwl]
          rw [e4, ← h1, if_neg hwl, h1]
          refine ⟨s', C', ?_, r1, (lat_RM.trans R21.up.rm).trans m1, r2, r3, ?_⟩
          · have hL := lat_run (b := b) (m := m) (s := s) hb (e := e) (by omega) (r := 2)
            have hie : ix_ (nI e) 1100 = some e := ixN (by omega) (by omega)
            simp [f_M_shrink_23, isOr hb, hw, pb, ldIr hb, h32, hwl, hE, oI, hL, ldRr hb, as21z1, hie, f1]
          · rw [r4]
            cases C <;> simp
theorem cand_loop (hb : hp_C b m = some 11) (h : RR s n L B) {C : List Nat} (hC : ∀ e, e < n → (e ∈ C ↔ (¬ ga s 21 e = 0 ∧ ga s 15 e = 2))) {st : Nat → Nat} (hst : ∀ e ∈ L 2, gb s 19 e = lN (st e) ∧ st e < 2 ^ 31) (hCL : ∀ e ∈ C, e ∈ L 2) : ∀ (i j : Nat), j ≤ n → n - j < i → f_M_nextCandidate_4 N i (some m) (oI (bst (fun e => e ∈ C) (fun a b => st a < st b) j)) (nI j) (rh b m s) = some (oI (bst (fun e => e ∈ C) (fun a b => st a < st b) n), rh b m s) := by
  have h600 := h.2.1
  intro i
  induction i with
  | zero => intro j _ hi; omega
  | succ i ih =>
    intro j hj hi
    by_cases hjn : j = n
    · subst hjn
      have : nI j ≤ nI j := Int32.le_refl _
      simp [f_M_nextCandidate_4, ldIr hb, h.1, this]
    · have hlt : ¬ nI n ≤ nI j := nI_ge (by omega) (by omega)
      have hij : ix_ (nI j) 1100 = some j := ixN (by omega) (by omega)
      have := ih (j + 1) (by omega) (by omega)
      rw [← nI_1] at this
      by_cases hrm : j ∈ C
      · obtain ⟨g1, g2⟩ := (hC j (by omega)).mp hrm
        cases hbj : bst (fun e => e ∈ C) (fun a b => st a < st b) j with
        | none =>
          simp only [bst, hbj, hrm, if_true, oI] at this
          simp [f_M_nextCandidate_4, f_M_nextCandidate_52, f_M_nextCandidate_54, ldIr hb, ldRr hb, h.1, hlt, al15, al19, al21, hij, g1, g2, oI, this]
        | some d =>
          obtain ⟨hd1, hd2⟩ := bst_in _ _ hbj
          have hd : ix_ (nI d) 1100 = some d := ixN (by omega) (by omega)
          have hm1 : ¬ nI d = -1 := nI_m1 (by omega)
          have e1 := hst j (hCL j hrm)
          have e2 := hst d (hCL d hd2)
          by_cases hlt2 : st j < st d
          · have hc : ¬ lN (st d) ≤ lN (st j) := fun z => by
              rw [lN_le e2.2 e1.2] at z; omega
            simp only [bst, hbj, hrm, true_and, hlt2, if_true, oI] at this
            simp [f_M_nextCandidate_4, f_M_nextCandidate_52, f_M_nextCandidate_54, ldIr hb, ldRr hb, h.1, hlt, al15, al19, al21, hij, g1, g2, oI, hm1, hd, e1.1, e2.1, lgc_ge, hc, this]
          · have hc : lN (st d) ≤ lN (st j) := by
              rw [lN_le e2.2 e1.2]; omega
            simp only [bst, hbj, hrm, true_and, hlt2, if_false, oI] at this
            simp [f_M_nextCandidate_4, f_M_nextCandidate_52, f_M_nextCandidate_54, ldIr hb, ldRr hb, h.1, hlt, al15, al19, al21, hij, g1, g2, oI, hm1, hd, e1.1, e2.1, lgc_ge, hc, this]
      · have hbj : bst (fun e => e ∈ C) (fun a b => st a < st b) (j + 1) = bst (fun e => e ∈ C) (fun a b => st a < st b) j := by
          rw [bst]
          cases bst (fun e => e ∈ C) (fun a b => st a < st b) j <;> simp [hrm]
        rw [hbj] at this
        by_cases g1 : ga s 21 j = 0
        · simp [f_M_nextCandidate_4, f_M_nextCandidate_52, f_M_nextCandidate_54, ldIr hb, ldRr hb, h.1, hlt, al15, al21, hij, g1, this]
        · have g2 : ¬ ga s 15 j = 2 := fun z => hrm ((hC j (by omega)).mpr ⟨g1, z⟩)
          simp [f_M_nextCandidate_4, f_M_nextCandidate_52, f_M_nextCandidate_54, ldIr hb, ldRr hb, h.1, hlt, al15, al21, hij, g1, g2, this]
theorem RR.cand (hb : hp_C b m = some 11) (h : RR s n L B) (hN : 1000 ≤ N) {C l0 : List Nat} (hl : L 2 = l0 ++ C) (hfl : fl s (L 2) C) : f_M_nextCandidate N (some m) (rh b m s) = some (oI C.head?, rh b m s) := by
  have h600 := h.2.1
  obtain ⟨st, t, h6, h7, h8, h9⟩ := h.2.2.2.2.2
  have hCL : ∀ e ∈ C, e ∈ L 2 := fun e he => by rw [hl]; exact List.mem_append_right _ he
  have hC : ∀ e, e < n → (e ∈ C ↔ (¬ ga s 21 e = 0 ∧ ga s 15 e = 2)) := by
    intro e he
    have hr := h.room he i2
    rw [show nI 2 = 2 from rfl] at hr
    constructor
    · intro hm
      have := hfl e (hCL e hm)
      rw [if_pos hm] at this
      exact ⟨by rw [this]; decide, hr.mpr (hCL e hm)⟩
    · rintro ⟨g1, g2⟩
      have := hfl e (hr.mp g2)
      by_cases hm : e ∈ C
      · exact hm
      · rw [if_neg hm] at this; exact absurd this g1
  have := cand_loop (N := N) hb h hC (st := st) (fun e he => ⟨(h8 2 i2 e he).1, by have := (h8 2 i2 e he).2; omega⟩) hCL N 0 (by omega) (by omega)
  rw [nI_0] at this
  unfold f_M_nextCandidate
  rw [show (-1 : Int32) = oI (bst (fun e => e ∈ C) (fun a b => st a < st b) 0) from rfl, this]
  congr 3
  cases hc : C with
  | nil => exact bst_none n (fun e _ => by simp)
  | cons e l =>
    have hp := h9 2 i2
    rw [hl, hc] at hp
    have hp2 := (List.pairwise_append.mp hp).2.1
    refine bst_eq (h := e) (by simp) n (h.2.2.2.1 2 i2 e (hCL e (by rw [hc]; simp))) (fun d _ hd hde => ?_)
    rcases List.mem_cons.mp hd with z | z
    · exact absurd z hde
    · have := (List.pairwise_cons.mp hp2).1 d z
      exact ⟨this, by omega⟩
theorem all_run (hb : hp_C b m = some 11) (h : RR s n L B) (hN : 1000 ≤ N) : f_M_all N (some m) (rh b m s) = some (sw (ga s 13) (L 1) + sw (ga s 13) (L 2) + sw (ga s 13) (L 3), rh b m s) := by
  have w1 := h.weight hb i1 hN; have w2 := h.weight hb i2 hN; have w3 := h.weight hb i3 hN
  rw [show nI 1 = 1 from rfl] at w1
  rw [show nI 2 = 2 from rfl] at w2
  rw [show nI 3 = 3 from rfl] at w3
  simp [f_M_all, isOr hb, pb, w1, w2, w3]
theorem vic_in {v : Nat} (h : vicL L = some v) : ∃ q, in3 q ∧ v ∈ L q := by
  unfold vicL at h
  cases h2 : L 2 with
  | cons e l => rw [h2] at h; simp at h; subst h; exact ⟨2, i2, by rw [h2]; simp⟩
  | nil =>
    rw [h2] at h
    cases h3 : L 3 with
    | cons e l => rw [h3] at h; simp at h; subst h; exact ⟨3, i3, by rw [h3]; simp⟩
    | nil =>
      rw [h3] at h
      cases h1 : L 1 with
      | cons e l => rw [h1] at h; simp at h; subst h; exact ⟨1, i1, by rw [h1]; simp⟩
      | nil => rw [h1] at h; simp at h
theorem vic_tot (h : vicL L = none) : tot L = 0 := by
  unfold vicL at h
  cases h2 : L 2 with
  | cons e l => rw [h2] at h; simp at h
  | nil =>
    rw [h2] at h
    cases h3 : L 3 with
    | cons e l => rw [h3] at h; simp at h
    | nil =>
      rw [h3] at h
      cases h1 : L 1 with
      | cons e l => rw [h1] at h; simp at h
      | nil => unfold tot; rw [h1, h2, h3]; rfl
/-- the reference finds its victim -/
theorem shrink_vic (hb : hp_C b m = some 11) (h : RR s n L B) (hN : 1000 ≤ N) {i : Nat} (hgt : ¬ sw (ga s 13) (L 1) + sw (ga s 13) (L 2) + sw (ga s 13) (L 3) ≤ gi s 1) {v : Nat} (hv : vicL L = some v) : f_M_shrink_57 N (i + 1) (some m) (rh b m s) = f_M_shrink_96 N (f_M_shrink_57 N i) (some m) (nI v) (rh b m s) := by
  have h600 := h.2.1
  obtain ⟨q, hq, hm⟩ := vic_in hv
  have hvn := h.2.2.2.1 q hq v hm
  have hm1 := nI_m1 (e := v) (by omega)
  have a := all_run hb h hN
  have w1 := h.earliest hb i1 hN; have w2 := h.earliest hb i2 hN; have w3 := h.earliest hb i3 hN
  rw [show nI 1 = 1 from rfl] at w1
  rw [show nI 2 = 2 from rfl] at w2
  rw [show nI 3 = 3 from rfl] at w3
  unfold vicL at hv
  cases h2 : L 2 with
  | cons e l =>
    rw [h2] at hv; simp at hv; subst hv
    rw [h2] at w2
    simp [f_M_shrink_57, f_M_shrink_85, isOr hb, pb, a, ldIr hb, hgt, w2, oI, hm1]
  | nil =>
    rw [h2] at hv w2
    cases h3 : L 3 with
    | cons e l =>
      rw [h3] at hv; simp at hv; subst hv
      rw [h3] at w3
      simp [f_M_shrink_57, f_M_shrink_85, isOr hb, pb, a, ldIr hb, hgt, w2, w3, oI, hm1]
    | nil =>
      rw [h3] at hv w3
      cases h1 : L 1 with
      | cons e l =>
        rw [h1] at hv; simp at hv; subst hv
        rw [h1] at w1
        simp [f_M_shrink_57, f_M_shrink_85, isOr hb, pb, a, ldIr hb, hgt, w1, w2, w3, oI]
      | nil => rw [h1] at hv; simp at hv
theorem evict_loop (hb : hp_C b m = some 11) (hN : 2000 ≤ N) : ∀ (k i j : Nat) (σ : Hp) (s : RS) (L : Nat → List Nat) (C : List Nat), Sim c o es n Q z W L B 0 σ s → k = tot L → (∃ l0, L 2 = l0 ++ C) → fl s (L 2) C → k < i → k < j → ∃ σ' s' L', f_W_evict_10 N i (some c) (C.head?.map es) (nI k) σ = some σ' ∧ f_M_shrink_57 N j (some m) (rh b m s) = some (rh b m s') ∧ Sim c o es n Q z W L' B 0 σ' s' := by
  intro k
  induction k with
  | zero =>
    intro i j σ s L C h hk hl0 hfl hi hj
    obtain ⟨hR, hI, hRR, hN0, hN1, hT⟩ := id h
    cases i with
    | zero => omega
    | succ i =>
      cases j with
      | zero => omega
      | succ j =>
        have a := all_run hb hRR (N := N) (by omega)
        unfold tot at hk
        have e1 : L 1 = [] := List.length_eq_zero_iff.mp (by omega)
        have e2 : L 2 = [] := List.length_eq_zero_iff.mp (by omega)
        have e3 : L 3 = [] := List.length_eq_zero_iff.mp (by omega)
        rw [e1, e2, e3] at a
        obtain ⟨-, ⟨mx, w, st, r, x, y, hmx, hm1, hm2, -⟩, -⟩ := hR.2.2.2.2.2.2.2.2.2.2.2
        have h0 : (0 : Int32) ≤ gi s 1 := by rw [hmx]; exact nI_pos' (by omega)
        refine ⟨σ, s, L, by simp [f_W_evict_10, nI_0], ?_, h⟩
        simp [f_M_shrink_57, isOr hb, pb, a, sw, ldIr hb, h0]
  | succ k ih =>
    intro i j σ s L C h hk hl0 hfl hi hj
    obtain ⟨hR, hI, hRR, hN0, hN1, hT⟩ := id h
    have h600 := hRR.2.1
    cases i with
    | zero => omega
    | succ i =>
      cases j with
      | zero => omega
      | succ j =>
        have a := all_run hb hRR (N := N) (by omega)
        have aC := hI.weight
        have aV := hI.victim
        have l1 := hI.len i1; have l2 := hI.len i2; have l3 := hI.len i3
        have hne : ¬ (nI (k + 1) ≤ 0) := nI_nle (by omega) (by unfold tot at hk; omega)
        have hk1 : nI (k + 1) + (-1) = nI k := pk_m1 k
        obtain ⟨k0, k1, k2, k3, k4, k5, k6, k7, k8, k9, -⟩ := id hR.1
        have hmax : hp_I σ 8 0 (c + 17) = gi s 1 := hR.2.1.2.2.2.2.2.2.2.2.1
        have c17 := hI.1.1
        by_cases hle : sw (ga s 13) (L 1) + sw (ga s 13) (L 2) + sw (ga s 13) (L 3) ≤ gi s 1
        · refine ⟨σ, s, L, ?_, ?_, h⟩
          · simp [f_W_evict_10, hne, ldR k0, k9, isO c17, aC, pb, ldI c17, hmax, hle]
          · simp [f_M_shrink_57, isOr hb, pb, a, ldIr hb, hle]
        · cases hv : vicL L with
          | none => have := vic_tot hv; omega
          | some v =>
            rw [hv] at aV
            have rV := shrink_vic (N := N) hb hRR (by omega) (i := j) hle hv
            obtain ⟨qv, hqv, hmv⟩ := vic_in hv
            have hvn := hI.lt hqv hmv
            have hvC := hI.c3 hvn
            have hivn : ix_ (nI v) 1100 = some v := ixN (by omega) (by omega)
            have hvm1 := nI_m1 (e := v) (by omega)
            obtain ⟨l0, hl0⟩ := hl0
            have rC := hRR.cand hb (N := N) (by omega) hl0 hfl
            cases hC : C with
            | nil =>
              subst hC
              obtain ⟨σ1, s1, f1, f2, h1, g21⟩ := h.evict1 (N := N) hb hqv hmv
              have htt := tot_out hqv hmv
              obtain ⟨σ', s', L', f3, f4, r⟩ := ih i j σ1 s1 _ [] h1 (by omega) ⟨_, (List.append_nil _).symm⟩ (by
                intro e he
                rw [g21]
                have : e ∈ L 2 := by
                  by_cases hq2 : qv = 2
                  · subst hq2; rw [upL_s] at he; exact List.mem_of_mem_erase he
                  · rw [upL_n (fun z => hq2 z.symm)] at he; exact he
                exact hfl e this) (by omega) (by omega)
              refine ⟨σ', s', L', ?_, ?_, r⟩
              · simp only [List.head?_nil, Option.map_none] at f3 ⊢
                simp [f_W_evict_10, f_W_evict_62, hne, ldR k0, k9, isO c17, aC, pb, ldI c17, hmax, hle, aV, f1, hk1, f3]
              · simp only [List.head?_nil, oI] at rC
                rw [rV]
                simp [f_M_shrink_96, f_M_shrink_134, f_M_shrink_139, f_M_shrink_163, f_M_shrink_179, f_M_shrink_189, isOr hb, pb, rC, f2, f4]
            | cons x C' =>
              subst hC
              have hx2 : x ∈ L 2 := by rw [hl0]; simp
              have hxn := hI.lt i2 hx2
              have hxC := hI.c3 hxn
              have hixn : ix_ (nI x) 1100 = some x := ixN (by omega) (by omega)
              have hxm1 := nI_m1 (e := x) (by omega)
              have hnx := hI.next i2 hl0
              have hnd := hI.nd i2
              rw [hl0] at hnd
              have hxC' : x ∉ C' := (List.nodup_cons.mp (List.nodup_append.mp hnd).2.1).1
              have hxl0 : x ∉ l0 := fun z => (List.nodup_append.mp hnd).2.2 x z x List.mem_cons_self rfl
              simp only [List.head?_cons, oI] at rC
              have hkx := (hR.2.2.2.1 x hxn).1
              have hkv := (hR.2.2.2.1 v hvn).1
              -- the victim goes
              have win : ∀ σ0 s0, Sim c o es n Q z W L B 0 σ0 s0 → fl s0 (L 2) (x :: C') → ∃ σ' s' L', f_W_evict_76 N (f_W_evict_10 N i) (some c) (nI (k + 1)) (some (es v)) (C'.head?.map es) σ0 = some σ' ∧ f_M_shrink_163 N (f_M_shrink_57 N j) (some m) (nI v) (nI x) 1 (rh b m s0) = some (rh b m s') ∧ Sim c o es n Q z W L' B 0 σ' s' := by
                intro σ0 s0 h0 hfl0
                have h0' : Sim c o es n Q z W L B 0 σ0 (ua s0 21 x 0) := h0.f21 (R21.up (s := s0) (e := x) (x := 0)).1 (R21.up (s := s0) (e := x) (x := 0)).2.1 (fun _ => rfl) (fun _ _ => rfl)
                have hv2 : v ∈ L 2 ∧ qv = 2 := by
                  have : v ∈ L 2 := by
                    unfold vicL at hv
                    cases hl2 : L 2 with
                    | nil => rw [hl2] at hx2; cases hx2
                    | cons y l => rw [hl2] at hv; simp at hv; subst hv; simp
                  exact ⟨this, hRR.one hqv i2 hmv this⟩
                obtain ⟨σ1, s1, f1, f2, h1, g21⟩ := h0'.evict1 (N := N) hb i2 hv2.1
                have htt := tot_out i2 hv2.1
                have hshape : ∃ l1, (L 2).erase v = l1 ++ C' := by
                  unfold vicL at hv
                  cases hl00 : l0 with
                  | nil =>
                    rw [hl00, List.nil_append] at hl0
                    rw [hl0] at hv; simp at hv; subst hv
                    exact ⟨[], by rw [hl0, List.erase_cons_head]; rfl⟩
                  | cons y l =>
                    rw [hl00, List.cons_append] at hl0
                    rw [hl0] at hv; simp at hv; subst hv
                    exact ⟨l ++ [x], by rw [hl0, List.erase_cons_head]; simp⟩
                obtain ⟨l1', hl1⟩ := hshape
                obtain ⟨σ', s', L', f3, f4, r⟩ := ih i j σ1 s1 _ C' h1 (by omega) ⟨l1', by rw [upL_s]; exact hl1⟩ (by
                  intro e he
                  rw [upL_s] at he
                  have he2 := List.mem_of_mem_erase he
                  rw [g21]
                  by_cases hex : e = x
                  · subst hex; rw [if_neg hxC']; simp [giui, giul, giua, giub, glui, glul, glua, glub, gaui, gaul, gaua, gaub, gbui, gbul, gbua, gbub]
                  · have e3 : ga (ua s0 21 x 0) 21 e = ga s0 21 e := by simp [giui, giul, giua, giub, glui, glul, glua, glub, gaui, gaul, gaua, gaub, gbui, gbul, gbua, gbub, hex]
                    rw [e3, hfl0 e he2]
                    simp [hex]) (by omega) (by omega)
                refine ⟨σ', s', L', ?_, ?_, r⟩
                · rw [f1, hk1, f3]
                · simp [f_M_shrink_163, f_M_shrink_179, f_M_shrink_189, hxm1, ldRr hb, as21z0, hixn, isOr hb, f2, f4]
              -- the candidate goes
              have lose : ∀ σ0 s0, Sim c o es n Q z W L B 0 σ0 s0 → fl s0 (L 2) (x :: C') → ∃ σ' s' L', f_W_evict_76 N (f_W_evict_10 N i) (some c) (nI (k + 1)) (some (es x)) (C'.head?.map es) σ0 = some σ' ∧ f_M_shrink_163 N (f_M_shrink_57 N j) (some m) (nI v) (nI x) 0 (rh b m s0) = some (rh b m s') ∧ Sim c o es n Q z W L' B 0 σ' s' := by
                intro σ0 s0 h0 hfl0
                obtain ⟨σ1, s1, f1, f2, h1, g21⟩ := h0.evict1 (N := N) hb i2 hx2
                have htt := tot_out i2 hx2
                obtain ⟨σ', s', L', f3, f4, r⟩ := ih i j σ1 s1 _ C' h1 (by omega) ⟨l0, by rw [upL_s, hl0, List.erase_append_right _ hxl0, List.erase_cons_head]⟩ (by
                  intro e he
                  rw [upL_s] at he
                  have he2 := ((hI.nd i2).mem_erase_iff).mp he
                  rw [g21, hfl0 e he2.2]
                  simp [he2.1]) (by omega) (by omega)
                refine ⟨σ', s', L', ?_, ?_, r⟩
                · rw [f1, hk1, f3]
                · simp [f_M_shrink_163, f_M_shrink_179, f_M_shrink_189, isOr hb, f2, f4]
              by_cases hxv : x = v
              · subst hxv
                obtain ⟨σ', s', L', f1, f2, r⟩ := win σ s h hfl
                refine ⟨σ', s', L', ?_, ?_, r⟩
                · simp [f_W_evict_10, f_W_evict_62, hne, ldR k0, k9, isO c17, aC, pb, ldI c17, hmax, hle, aV, isO k0, f_W_loserOf, ldR hxC, hnx, f1]
                · rw [rV]
                  simp [f_M_shrink_96, f_M_shrink_134, f_M_shrink_139, isOr hb, pb, rC, hxm1, f2]
              · have hesne : ¬ es x = es v := fun z => hxv (hI.2.2.2.2.2.2 x v hxn hvn z)
                have hnxv : ¬ nI x = nI v := fun z => hxv ((nI_eq (by omega) (by omega)).mp z)
                obtain ⟨r1, ax, bx⟩ := hR.2.2.2.2.2.2.2.1.least (b := b) (m := m) (N := N) hb (by omega) (ga s 11 x)
                obtain ⟨r2, av, bv⟩ := hR.2.2.2.2.2.2.2.1.least (b := b) (m := m) (N := N) hb (by omega) (ga s 11 v)
                have c15 := hR.2.2.2.2.2.2.2.1.1
                by_cases h12 : r1 ≤ r2
                · by_cases h5 : r1 ≤ 5
                  · have h5' : ¬ 5 < r1 := Int32.not_lt.mpr h5
                    obtain ⟨σ', s', L', f1, f2, r⟩ := lose σ s h hfl
                    refine ⟨σ', s', L', ?_, ?_, r⟩
                    · simp [f_W_evict_10, f_W_evict_62, hne, ldR k0, k9, k8, isO c17, isO c15, aC, pb, ldI c17, hmax, hle, aV, isO k0, f_W_loserOf, hesne, ldI hxC, ldI hvC, hkx, hkv, ax, av, h12, h5', ldR hxC, hnx, f1]
                    · rw [rV]
                      simp [f_M_shrink_96, f_M_shrink_134, f_M_shrink_139, isOr hb, pb, rC, hxm1, hnxv, ldRr hb, al11, hixn, hivn, bx, bv, h12, h5, f2]
                  · have h5' : 5 < r1 := Int32.not_le.mp h5
                    obtain ⟨σ0, s0, d, d1, d2, d3, d4⟩ := draw_run hb h
                    have hfl0 : fl s0 (L 2) (x :: C') := fun e he => by rw [d4]; exact hfl e he
                    have k0' := d3.1.1.1
                    have hxC0 := d3.2.1.c3 hxn
                    have hnx0 := d3.2.1.next i2 hl0
                    by_cases hd : d - d / 128 * 128 = 0
                    · rw [if_pos hd] at d2
                      obtain ⟨σ', s', L', f1, f2, r⟩ := win σ0 s0 d3 hfl0
                      refine ⟨σ', s', L', ?_, ?_, r⟩
                      · simp [f_W_evict_10, f_W_evict_62, hne, ldR k0, k9, k8, isO c17, isO c15, aC, pb, ldI c17, hmax, hle, aV, isO k0, f_W_loserOf, hesne, ldI hxC, ldI hvC, hkx, hkv, ax, av, h12, h5', d1, hd, ldR hxC0, hnx0, f1]
                      · rw [rV]
                        simp [f_M_shrink_96, f_M_shrink_134, f_M_shrink_139, isOr hb, pb, rC, hxm1, hnxv, ldRr hb, al11, hixn, hivn, bx, bv, h12, h5, d2, f2]
                    · rw [if_neg hd] at d2
                      obtain ⟨σ', s', L', f1, f2, r⟩ := lose σ0 s0 d3 hfl0
                      refine ⟨σ', s', L', ?_, ?_, r⟩
                      · simp [f_W_evict_10, f_W_evict_62, hne, ldR k0, k9, k8, isO c17, isO c15, aC, pb, ldI c17, hmax, hle, aV, isO k0, f_W_loserOf, hesne, ldI hxC, ldI hvC, hkx, hkv, ax, av, h12, h5', d1, hd, ldR hxC0, hnx0, f1]
                      · rw [rV]
                        simp [f_M_shrink_96, f_M_shrink_134, f_M_shrink_139, isOr hb, pb, rC, hxm1, hnxv, ldRr hb, al11, hixn, hivn, bx, bv, h12, h5, d2, f2]
                · obtain ⟨σ', s', L', f1, f2, r⟩ := win σ s h hfl
                  refine ⟨σ', s', L', ?_, ?_, r⟩
                  · simp [f_W_evict_10, f_W_evict_62, hne, ldR k0, k9, k8, isO c17, isO c15, aC, pb, ldI c17, hmax, hle, aV, isO k0, f_W_loserOf, hesne, ldI hxC, ldI hvC, hkx, hkv, ax, av, h12, ldR hxC, hnx, f1]
                  · rw [rV]
                    simp [f_M_shrink_96, f_M_shrink_134, f_M_shrink_139, isOr hb, pb, rC, hxm1, hnxv, ldRr hb, al11, hixn, hivn, bx, bv, h12, f2]
theorem Sim.shrink (hb : hp_C b m = some 11) (hN : 3000 ≤ N) (h : Sim c o es n Q z W L (B + 600) 0 σ s) : ∃ f σ1 σ' s' L', f_Rs_spillWindow N (some (c + 17)) σ = some (f, σ1) ∧ SK σ1 c ∧ f_W_evict N (some c) f σ1 = some σ' ∧ f_M_shrink N (some m) (rh b m s) = some (rh b m s') ∧ Sim c o es n Q z W L' B 0 σ' s' := by
  obtain ⟨hR, hI, hRR, hN0, hN1, hT⟩ := id h
  have h600 := hRR.2.1
  have hlim : hp_I σ 8 4 (c + 17) = gi s 32 := hR.2.1.2.2.2.2.2.2.2.2.2.1
  obtain ⟨-, ⟨mx, w, st, r, x, y, hmx, hm1, hm2, hw, hw1, hw2, -⟩, -⟩ := id hR.2.2.2.2.2.2.2.2.2.2.2
  have h0 : (0 : Int32) ≤ gi s 32 := by rw [hw]; exact nI_pos' (by omega)
  have l1 := hI.len i1
  obtain ⟨σ1, f1, j1, m1⟩ := hI.spill (N := N) h600 (by omega)
  rw [hlim] at f1 j1
  obtain ⟨s1, f2, r21, r22, -⟩ := clr_loop (N := N) hb h600 N 0 s hRR.1 (by omega) (by omega)
  have w1 : ga s1 13 = ga s 13 := funext (r21.2.1 13 (by decide))
  obtain ⟨s2, C', f3, r3, m3, hl, hf, hh⟩ := spillR (N := N) (B := B) hb (by omega) (gi s 32) h0 N (L 1).length s1 L [] ((hRR.f21 r21).le (by omega)) (r21.1 32) rfl (by omega) ⟨L 2, (List.append_nil _).symm⟩ (fun e he => by
    rw [r22 e (by omega) (hI.lt i2 he)]; simp)
  rw [w1] at r3 hl hf hh
  have rm := r21.rm.trans m3
  have h2 : Sim c o es n Q z W (spillL (ga s 13) (gi s 32) (L 1).length L) B 0 σ1 s2 := h.rooms m1 rm j1 r3 (fun e he => inL_spill _ _ he)
  have hI2 := h2.2.1
  have a1 := hI2.len i1; have a2 := hI2.len i2; have a3 := hI2.len i3
  obtain ⟨σ', s', L', f4, f5, r5⟩ := evict_loop (N := N) hb (by omega) _ N N σ1 s2 _ C' h2 rfl hl hf (by unfold tot; omega) (by unfold tot; omega)
  refine ⟨_, σ1, σ', s', L', f1, h2.1.1, ?_, ?_, r5⟩
  · obtain ⟨k0, k1, k2, k3, k4, k5, k6, k7, k8, k9, -⟩ := id h2.1.1
    rw [hh] at f4
    simp only [List.head?_nil, Option.none_or] at f4
    have hsz := hI2.size
    unfold tot at f4
    simp only [f_W_evict, ldR k0, k9, isO hI2.1.1, hsz, pb, Option.bind_some]
    exact f4
  · rw [nI_0] at f2
    simp only [f_M_shrink]
    rw [f2, f3, f5]
end SH
