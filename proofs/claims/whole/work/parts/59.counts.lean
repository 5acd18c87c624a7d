/-! COUNT AND AT -/
section CN
variable {b σ σ' : Hp} {m c n Q z N B B' t o1 : Nat} {o : Nat × (Nat → Int32)} {es : Nat → Nat} {W : Nat → Int32} {s s' : RS} {L L' : Nat → List Nat} {wt : Nat → Int32}
theorem inMap_loop (hb : hp_C b m = some 11) (hR : Rest c o es n Q z W σ s) (hI : RI σ c es n wt L) (hn : n ≤ 600) (v : Int32) : ∀ (i j : Nat) (a : Int32), j ≤ 1000 → 1000 - j < i → ∃ x, f_W_entriesInMap_4 N i (some c) v a (nI j) σ = some (x, σ) ∧ f_M_inMap_4 N i (some m) v a (nI j) (rh b m s) = some (x, rh b m s) := by
  have hWF := hR.2.2.2.2.2.2.2.2.2.2.1
  obtain ⟨k0, k1, k2, k3, k4, k5, k6, k7, -⟩ := id hR.1
  have k14 : hp_C σ (c + 14) = some 4 := hR.1.2.2.2.2.2.2.2.2.2.2.2.2.2.2.2.1
  obtain ⟨f, fA, fM⟩ := id hR.2.2.2.2.1
  intro i
  induction i with
  | zero => intro j a _ hi; omega
  | succ i ih =>
    intro j a hj hi
    by_cases hjn : j = 1000
    · subst hjn
      have : (1000 : Int32) ≤ nI 1000 := by decide
      exact ⟨a, by simp [f_W_entriesInMap_4, this], by simp [f_M_inMap_4, this]⟩
    · have hlt : ¬ (1000 : Int32) ≤ nI j := nI_ge (b := 1000) (by omega) (by decide)
      have hij : ix_ (nI j) 1000 = some j := ixN (by omega) (by omega)
      obtain ⟨x0, p0, q0⟩ := ih (j + 1) a (by omega) (by omega)
      obtain ⟨x1, p1, q1⟩ := ih (j + 1) (a + 1) (by omega) (by omega)
      rw [← nI_1] at p0 q0 p1 q1
      cases hm : mpo s j with
      | none =>
        have fk : f j = none := by rw [fM j (by omega), hm]; rfl
        have h6 : ga s 6 j = -1 := by
          unfold mpo at hm
          by_cases h : ga s 6 j = -1
          · exact h
          · rw [if_neg h] at hm; cases hm
        exact ⟨x0, by simp [f_W_entriesInMap_4, f_W_entriesInMap_43, hlt, ldR k0, k1, alR fA hij, fk, p0], by simp [f_M_inMap_4, f_M_inMap_43, f_M_inMap_44, hlt, ldRr hb, al6, hij, h6, q0]⟩
      | some e =>
        obtain ⟨hen, h6, h11, h20⟩ := hWF.mpo hn (by omega) hm
        have fk : f j = some (es e) := by rw [fM j (by omega), hm]; rfl
        have hm1 := nI_m1 (e := e) (by omega)
        have hov := hR.over hen (hI.c3 hen)
        have hov2 := over_run (b := b) (m := m) (s := s) hb (e := e) (by omega) (hWF.2.2.2.2.2 e hen)
        by_cases hv : v = 0
        · subst hv
          exact ⟨x1, by simp [f_W_entriesInMap_4, f_W_entriesInMap_43, f_W_entriesInMap_40, hlt, ldR k0, k1, alR fA hij, fk, p1], by simp [f_M_inMap_4, f_M_inMap_39, f_M_inMap_44, hlt, ldRr hb, al6, hij, h6, hm1, q1]⟩
        · by_cases ho : ovI s e = 0
          · exact ⟨x0, by simp [f_W_entriesInMap_4, f_W_entriesInMap_43, f_W_entriesInMap_40, hlt, ldR k0, k1, k7, isO k14, alR fA hij, fk, hv, hov, ho, pb, p0], by simp [f_M_inMap_4, f_M_inMap_39, f_M_inMap_43, f_M_inMap_44, hlt, ldRr hb, isOr hb, al6, hij, h6, hm1, hv, hov2, ho, pb, q0]⟩
          · exact ⟨x1, by simp [f_W_entriesInMap_4, f_W_entriesInMap_43, f_W_entriesInMap_40, hlt, ldR k0, k1, k7, isO k14, alR fA hij, fk, hv, hov, ho, pb, p1], by simp [f_M_inMap_4, f_M_inMap_39, f_M_inMap_43, f_M_inMap_44, hlt, ldRr hb, isOr hb, al6, hij, h6, hm1, hv, hov2, ho, pb, q1]⟩
theorem onWay_loop (hb : hp_C b m = some 11) (hR : Rest c o es n Q z W σ s) : ∀ (i j : Nat) (a : Int32), j ≤ 1000 → 1000 - j < i → ∃ x, f_W_keysOnTheirWay_4 N i (some c) a (nI j) σ = some (x, σ) ∧ f_M_onWay_4 N i (some m) a (nI j) (rh b m s) = some (x, rh b m s) := by
  obtain ⟨k0, k1, k2, k3, -⟩ := id hR.1
  obtain ⟨f, fA, fM⟩ := id hR.2.2.2.2.2.1
  intro i
  induction i with
  | zero => intro j a _ hi; omega
  | succ i ih =>
    intro j a hj hi
    by_cases hjn : j = 1000
    · subst hjn
      have : (1000 : Int32) ≤ nI 1000 := by decide
      exact ⟨a, by simp [f_W_keysOnTheirWay_4, this], by simp [f_M_onWay_4, this]⟩
    · have hlt : ¬ (1000 : Int32) ≤ nI j := nI_ge (b := 1000) (by omega) (by decide)
      have hij : ix_ (nI j) 1000 = some j := ixN (by omega) (by omega)
      obtain ⟨x0, p0, q0⟩ := ih (j + 1) a (by omega) (by omega)
      obtain ⟨x1, p1, q1⟩ := ih (j + 1) (a + 1) (by omega) (by omega)
      rw [← nI_1] at p0 q0 p1 q1
      rcases fM j (by omega) with ⟨g, fk⟩ | ⟨a', fk, -, -, g⟩
      · exact ⟨x0, by simp [f_W_keysOnTheirWay_4, f_W_keysOnTheirWay_23, hlt, ldR k0, k2, alR fA hij, fk, p0], by simp [f_M_onWay_4, f_M_onWay_26, hlt, ldRr hb, al7, hij, g, q0]⟩
      · have g0 : ¬ ga s 7 j ≤ 0 := by
          rcases g with ⟨g, -⟩ | ⟨g, -⟩ <;> rw [g] <;> decide
        exact ⟨x1, by simp [f_W_keysOnTheirWay_4, f_W_keysOnTheirWay_23, hlt, ldR k0, k2, alR fA hij, fk, p1], by simp [f_M_onWay_4, f_M_onWay_26, hlt, ldRr hb, al7, hij, g0, q1]⟩
theorem c_count (hb : hp_C b m = some 11) (hN : 10000 ≤ N) (h : SS c o1 Q σ s) (hQ : Q + 1 ≤ 599) (v : Int32) : ∃ r σ' s', f_W_count N (some c) v σ = some (r, σ') ∧ f_M_count N (some m) v (rh b m s) = some (r, rh b m s') ∧ SS c o1 (Q + 1) σ' s' := by
  obtain ⟨V, es, n, z, W, L, t, ht, hn, hV, hS⟩ := h.op hQ
  have hS' := hS.thr (x := 0)
  have hf := SS.cl (Q := Q) hS' (by omega) ht
  obtain ⟨k0, k1, k2, k3, k4, k5, k6, k7, k8, k9, k10, k11, k12, k13, k14, k15, k16, k17, k18, k19, k20, k21, k22, k23⟩ := id hS.1.1
  obtain ⟨a1, a2, a3, a4, a5, a6, a7, a8, a9, a10, a11⟩ := id hS'.1.2.1
  obtain ⟨b1, b2, b3, b4, b5, b6, b7, b8, b9⟩ := id hS'.1.2.2.1
  obtain ⟨hR, hI, hRR, hN0, hN1, hT⟩ := id hS'
  have h600 := hRR.2.1
  obtain ⟨x0, p0, q0⟩ := inMap_loop (N := N) hb hR hI h600 0 N 0 0 (by omega) (by omega)
  obtain ⟨x1, p1, q1⟩ := inMap_loop (N := N) hb hR hI h600 1 N 0 0 (by omega) (by omega)
  obtain ⟨x2, p2, q2⟩ := onWay_loop (N := N) hb hR N 0 0 (by omega) (by omega)
  rw [nI_0] at p0 q0 p1 q1 p2 q2
  have w1 : f_M_weightOf N (some m) 1 (rh b m (ui s 0 0)) = _ := hRR.weight hb i1 (N := N) (by omega)
  have w2 : f_M_weightOf N (some m) 2 (rh b m (ui s 0 0)) = _ := hRR.weight hb i2 (N := N) (by omega)
  have w3 : f_M_weightOf N (some m) 3 (rh b m (ui s 0 0)) = _ := hRR.weight hb i3 (N := N) (by omega)
  have wa := all_run hb hRR (N := N) (by omega)
  have u1 := hI.w7 i1
  have u2 := hI.w7 i2
  have u3 := hI.w7 i3
  have c1 := hI.c7 i1
  have c2 := hI.c7 i2
  have c3 := hI.c7 i3
  obtain ⟨r0, r1, r2, r3⟩ := id hI.1
  have rw' := hI.weight
  by_cases v0 : v = 0
  · subst v0
    exact ⟨x0, σ, _, by simp [f_W_count, f_W_entriesInMap, isO k0, pb, p0], by simp [f_M_count, f_M_inMap, stIr hb, isOr hb, pb, q0], hf⟩
  by_cases v1 : v = 1
  · subst v1
    exact ⟨x1, σ, _, by simp [f_W_count, f_W_entriesInMap, isO k0, pb, p1], by simp [f_M_count, f_M_inMap, stIr hb, isOr hb, pb, q1], hf⟩
  by_cases v2 : v = 2
  · subst v2
    exact ⟨_, σ, _, by simp [f_W_count, isO r0, ldR k0, k9, pb, rw']; rfl, by simp [f_M_count, stIr hb, isOr hb, pb, wa], hf⟩
  by_cases v3 : v = 3
  · subst v3
    exact ⟨sw (ga (ui s 0 0) 13) (L 1), σ, _, by simp [f_W_count, ldR k0, k9, ldR r0, r1, ldI c1, u1], by simp [f_M_count, stIr hb, isOr hb, pb, w1], hf⟩
  by_cases v4 : v = 4
  · subst v4
    exact ⟨sw (ga (ui s 0 0) 13) (L 2), σ, _, by simp [f_W_count, ldR k0, k9, ldR r0, r2, ldI c2, u2], by simp [f_M_count, stIr hb, isOr hb, pb, w2], hf⟩
  by_cases v5 : v = 5
  · subst v5
    exact ⟨sw (ga (ui s 0 0) 13) (L 3), σ, _, by simp [f_W_count, ldR k0, k9, ldR r0, r3, ldI c3, u3], by simp [f_M_count, stIr hb, isOr hb, pb, w3], hf⟩
  by_cases v6 : v = 6
  · subst v6
    exact ⟨_, σ, _, by simp [f_W_count, ldR k0, k9, ldI r0, a10]; rfl, by simp [f_M_count, stIr hb, ldIr hb], hf⟩
  by_cases v7 : v = 7
  · subst v7
    exact ⟨_, σ, _, by simp [f_W_count, ldR k0, k10, ldI k16, b3]; rfl, by simp [f_M_count, stIr hb, ldIr hb], hf⟩
  by_cases v8 : v = 8
  · subst v8
    exact ⟨_, σ, _, by simp [f_W_count, ldR k0, k10, ldI k16, b4]; rfl, by simp [f_M_count, stIr hb, ldIr hb], hf⟩
  by_cases v9 : v = 9
  · subst v9
    exact ⟨_, σ, _, by simp [f_W_count, ldI k0, a2]; rfl, by simp [f_M_count, stIr hb, ldIr hb], hf⟩
  by_cases v10 : v = 10
  · subst v10
    exact ⟨_, σ, _, by simp [f_W_count, ldI k0, a3]; rfl, by simp [f_M_count, stIr hb, ldIr hb], hf⟩
  by_cases v11 : v = 11
  · subst v11
    exact ⟨_, σ, _, by simp [f_W_count, ldI k0, a4]; rfl, by simp [f_M_count, stIr hb, ldIr hb], hf⟩
  by_cases v12 : v = 12
  · subst v12
    exact ⟨_, σ, _, by simp [f_W_count, ldI k0, a5]; rfl, by simp [f_M_count, stIr hb, ldIr hb], hf⟩
  by_cases v13 : v = 13
  · subst v13
    obtain ⟨t0, -, -, -, -, m1, m2, -⟩ := hN0
    obtain ⟨t1, -, -, -, -, m3, m4, -⟩ := hN1
    have m2 : hp_I σ 6 1 (c + 3) = nI t0 := m2
    have m4 : hp_I σ 6 1 (c + 5) = nI t1 := m4
    have z0 : ix_ 0 2 = some 0 := by decide
    have z1 : ix_ 1 2 = some 1 := by decide
    exact ⟨nI t0 + nI t1, σ, _, by simp [f_W_count, ldR k0, k3, k4, ldI k11, ldI k12, m2, m4], by simp [f_M_count, stIr hb, ldRr hb, al24, z0, z1, m1, m3], hf⟩
  by_cases v14 : v = 14
  · subst v14
    exact ⟨nI t, σ, _, by simp [f_W_count, ldR k0, k5, ldI k13, hT.2.2.2.1], by simp [f_M_count, stIr hb, ldIr hb, hT.2.2.1], hf⟩
  by_cases v15 : v = 15
  · subst v15
    have hC := hR.2.2.2.2.2.2.2.1
    exact ⟨_, σ, _, by simp [f_W_count, ldR k0, k8, ldI hC.1, hC.2.2.2.2.1]; rfl, by simp [f_M_count, stIr hb, ldIr hb], hf⟩
  by_cases v16 : v = 16
  · subst v16
    exact ⟨_, σ, _, by simp [f_W_count, ldR k0, k3, k4, ldI k11, ldI k12, a11]; rfl, by simp [f_M_count, stIr hb, ldIr hb], hf⟩
  by_cases v17 : v = 17
  · subst v17
    exact ⟨x2, σ, _, by simp [f_W_count, f_W_keysOnTheirWay, isO k0, pb, p2], by simp [f_M_count, f_M_onWay, stIr hb, isOr hb, pb, q2], hf⟩
  exact ⟨-1, σ, _, by simp [f_W_count, v0, v1, v2, v3, v4, v5, v6, v7, v8, v9, v10, v11, v12, v13, v14, v15, v16, v17], by simp [f_M_count, stIr hb, v0, v1, v2, v3, v4, v5, v6, v7, v8, v9, v10, v11, v12, v13, v14, v15, v16, v17], hf⟩
theorem sw_one : ∀ (l : List Nat), sw (fun _ => 1) l = nI l.length := by
  intro l
  induction l with
  | nil => exact nI_0.symm
  | cons a l ih =>
    simp only [sw, List.length_cons]
    rw [ih, Int32.add_comm, nI_1]
theorem ix_nd {l1 l2 : List Nat} {e k : Nat} (hd : (l1 ++ e :: l2).Nodup) (h : (l1 ++ e :: l2)[k]? = some e) : k = l1.length := by
  have h0 : (l1 ++ e :: l2)[l1.length]? = some e := by simp
  exact ((List.getElem?_inj (i := l1.length) (j := k) (by simp) hd).mp (h0.trans h.symm)).symm
theorem at_cnt (hb : hp_C b m = some 11) (h : RR s n L B) {q e : Nat} (hq : in3 q) {l1 l2 : List Nat} (hl : L q = l1 ++ e :: l2) {v k : Int32} (hv : v + 1 = nI q) {rec : Option Nat → Int32 → Int32 → Int32 → Hp → Option (Int32 × Hp)} : ∀ (i j : Nat), j ≤ n → n - j < i → f_M_at_51 N rec i (some m) v k (nI e) (wS (fun _ => 1) l1 j) (nI j) (rh b m s) = if wS (fun _ => 1) l1 n = k then some (ga s 11 e, rh b m s) else f_M_at_119 N rec (some m) v k (nI e) (rh b m s) := by
  have h600 := h.2.1
  have hein : e ∈ L q := by rw [hl]; simp
  have hen := h.2.2.2.1 q hq e hein
  have hie : ix_ (nI e) 1100 = some e := ixN (by omega) (by omega)
  obtain ⟨st, tt, -, ht, hst, hpw⟩ := h.2.2.2.2.2
  have hpw := hpw q hq
  rw [hl, List.pairwise_append] at hpw
  obtain ⟨-, hp2, hp3⟩ := hpw
  rw [List.pairwise_cons] at hp2
  intro i
  induction i with
  | zero => intro j _ hi; omega
  | succ i ih =>
    intro j hj hi
    by_cases hjn : j = n
    · subst hjn
      have : nI j ≤ nI j := Int32.le_refl _
      by_cases hk : wS (fun _ => 1) l1 j = k
      · simp [f_M_at_51, ldIr hb, ldRr hb, h.1, this, hk, al11, hie]
      · simp [f_M_at_51, ldIr hb, h.1, this, hk]
    · have hlt : ¬ nI n ≤ nI j := nI_ge (by omega) (by omega)
      have hij : ix_ (nI j) 1100 = some j := ixN (by omega) (by omega)
      have := ih (j + 1) (by omega) (by omega)
      rw [← nI_1] at this
      by_cases hrm : j ∈ L q
      · have hg := (h.room (by omega) hq).mpr hrm
        obtain ⟨s1, s2⟩ := hst q hq j hrm
        obtain ⟨s3, s4⟩ := hst q hq e hein
        have hcmp : (lN (st e) ≤ lN (st j)) ↔ st e ≤ st j := lN_le (by omega) (by omega)
        by_cases hj1 : j ∈ l1
        · have hs : ¬ lN (st e) ≤ lN (st j) := by
            rw [hcmp]
            have := hp3 j hj1 e (by simp)
            omega
          simp only [wS, if_pos hj1] at this
          simp [f_M_at_51, f_M_at_97, ldIr hb, ldRr hb, h.1, hlt, al15, al19, hij, hie, hg, hv, s1, s3, lgc_ge, hs, this]
        · have hs : lN (st e) ≤ lN (st j) := by
            rw [hcmp]
            rw [hl] at hrm
            rcases List.mem_append.mp hrm with z | z
            · exact absurd z hj1
            · rcases List.mem_cons.mp z with z | z
              · rw [z]; exact Nat.le_refl _
              · exact Nat.le_of_lt (hp2.1 j z)
          simp only [wS, if_neg hj1] at this
          simp [f_M_at_51, f_M_at_96, f_M_at_97, ldIr hb, ldRr hb, h.1, hlt, al15, al19, hij, hie, hg, hv, s1, s3, lgc_ge, hs]
          simpa using this
      · have hg : ¬ ga s 15 j = nI q := fun z => hrm ((h.room (by omega) hq).mp z)
        have hj1 : j ∉ l1 := fun z => hrm (by rw [hl]; exact List.mem_append_left _ z)
        simp only [wS, if_neg hj1] at this
        simp [f_M_at_51, f_M_at_96, f_M_at_97, ldIr hb, ldRr hb, h.1, hlt, al15, hij, hg, hv]
        simpa using this
theorem at_scan (hb : hp_C b m = some 11) (h : RR s n L B) {q k : Nat} (hk : k < 2 ^ 31) (hq : in3 q) {v : Int32} (hv : v + 1 = nI q) (hN : 1000 ≤ N) : ∀ (i j : Nat), j ≤ n → n - j < i → (∀ e, e < j → (L q)[k]? ≠ some e) → f_M_at_22 N i (some m) v (nI k) (nI j) (rh b m s) = some (match (L q)[k]? with | some e => ga s 11 e | none => -1, rh b m s) := by
  have h600 := h.2.1
  have hlen := h.len hq
  have hnd := h.2.2.2.2.1 q hq
  intro i
  induction i with
  | zero => intro j _ hi; omega
  | succ i ih =>
    intro j hj hi hno
    by_cases hjn : j = n
    · subst hjn
      have : nI j ≤ nI j := Int32.le_refl _
      have hnone : (L q)[k]? = none := by
        cases hx : (L q)[k]? with
        | none => rfl
        | some e => exact absurd hx (hno e (h.2.2.2.1 q hq e (List.mem_of_getElem? hx)))
      simp [f_M_at_22, ldIr hb, h.1, this, hnone]
    · have hlt : ¬ nI n ≤ nI j := nI_ge (by omega) (by omega)
      have hij : ix_ (nI j) 1100 = some j := ixN (by omega) (by omega)
      by_cases hrm : j ∈ L q
      · have hg := (h.room (by omega) hq).mpr hrm
        obtain ⟨l1, l2, hl⟩ := List.append_of_mem hrm
        have hc := at_cnt (N := N) hb h hq hl hv (k := nI k) (rec := f_M_at_22 N i) N 0 (by omega) (by omega)
        rw [show wS (fun _ => 1) l1 0 = 0 from rfl, nI_0] at hc
        have hnd1 : l1.Nodup := by rw [hl] at hnd; exact (List.nodup_append.mp hnd).1
        rw [wS_sw n l1 hnd1 (fun e he => h.2.2.2.1 q hq e (by rw [hl]; exact List.mem_append_left _ he)), sw_one] at hc
        have hl1 : l1.length < 601 := by
          rw [hl] at hlen
          simp at hlen; omega
        by_cases hkk : l1.length = k
        · have hx : (L q)[k]? = some j := by rw [hl, ← hkk]; simp
          rw [if_pos (by rw [hkk])] at hc
          simp [f_M_at_22, ldIr hb, ldRr hb, h.1, hlt, al15, hij, hg, hv, hc, hx]
        · have hne : ¬ nI l1.length = nI k := fun z => hkk ((nI_eq (by omega) hk).mp z)
          rw [if_neg hne] at hc
          have := ih (j + 1) (by omega) (by omega) (fun e he hx => by
            by_cases hej : e = j
            · rw [hej, hl] at hx
              rw [hl] at hnd
              exact hkk (ix_nd hnd hx).symm
            · exact hno e (by omega) hx)
          rw [← nI_1] at this
          simp [f_M_at_22, ldIr hb, ldRr hb, h.1, hlt, al15, hij, hg, hv, hc, f_M_at_119]
          exact this
      · have hg : ¬ ga s 15 j = nI q := fun z => hrm ((h.room (by omega) hq).mp z)
        have := ih (j + 1) (by omega) (by omega) (fun e he hx => by
          by_cases hej : e = j
          · rw [hej] at hx
            exact hrm (List.mem_of_getElem? hx)
          · exact hno e (by omega) hx)
        rw [← nI_1] at this
        simp [f_M_at_22, ldIr hb, ldRr hb, h.1, hlt, al15, hij, hg, hv, f_M_at_119]
        exact this
theorem at_one (hb : hp_C b m = some 11) (hN : 10000 ≤ N) (hS : Sim c o es n Q z W L B t σ s) {q : Nat} (hq : in3 q) {v : Int32} (hv : v + 1 = nI q) (hv0 : ¬ v < 0) (hv2 : ¬ 2 < v) (k : Int32) : ∃ x, f_Ro_keyAt N (some (rA c q)) k σ = some (x, σ) ∧ f_M_at N (some m) v k (rh b m s) = some (x, rh b m (ui s 0 0)) := by
  have hS' := hS.thr (x := 0)
  obtain ⟨hR, hI, hRR, -⟩ := id hS'
  have h600 := hRR.2.1
  have hk := hI.keyAt (N := N) h600 (by omega) hq k
  by_cases hk0 : k < 0
  · have hk1 : ¬ 0 ≤ k := Int32.not_le.mpr hk0
    rw [if_pos hk0] at hk
    exact ⟨-1, hk, by simp [f_M_at, stIr hb, hv0, hv2, hk1]⟩
  · have hk1 : 0 ≤ k := Int32.not_lt.mp hk0
    rw [if_neg hk0] at hk
    obtain ⟨j, hj, rfl⟩ := nI_of hk0
    rw [nI_clamp hj] at hk
    have hs := at_scan (N := N) hb hRR hj hq hv (by omega) N 0 (by omega) (by omega) (fun e he => absurd he (by omega))
    rw [nI_0] at hs
    refine ⟨_, hk, ?_⟩
    simp only [f_M_at, stIr hb, Option.bind_some, if_neg hv0, if_neg hv2, if_pos hk1]
    rw [hs]
    cases hx : (L q)[j]? with
    | none => rfl
    | some e =>
      have hen := hRR.2.2.2.1 q hq e (List.mem_of_getElem? hx)
      show some (ga (ui s 0 0) 11 e, _) = some (hp_I σ 3 0 (es e), _)
      rw [(hR.2.2.2.1 e hen).1]
theorem c_at (hb : hp_C b m = some 11) (hN : 10000 ≤ N) (h : SS c o1 Q σ s) (hQ : Q + 1 ≤ 599) (v k : Int32) : ∃ r σ' s', f_W_at N (some c) v k σ = some (r, σ') ∧ f_M_at N (some m) v k (rh b m s) = some (r, rh b m s') ∧ SS c o1 (Q + 1) σ' s' := by
  obtain ⟨V, es, n, z, W, L, t, ht, hn, hV, hS⟩ := h.op hQ
  have hf := SS.cl (Q := Q) (hS.thr (x := 0)) (by omega) ht
  obtain ⟨k0, k1, k2, k3, k4, k5, k6, k7, k8, k9, -⟩ := id hS.1.1
  obtain ⟨r0, r1, r2, r3⟩ := id hS.2.1.1
  have c1 := hS.2.1.c7 i1
  have c2 := hS.2.1.c7 i2
  have c3 := hS.2.1.c7 i3
  by_cases v0 : v = 0
  · subst v0
    obtain ⟨x, p, q⟩ := at_one (N := N) hb hN hS i1 (v := 0) (by decide) (by decide) (by decide) k
    exact ⟨x, σ, _, by simp [f_W_at, ldR k0, k9, ldR r0, r1, isO c1, p, pb], q, hf⟩
  by_cases v1 : v = 1
  · subst v1
    obtain ⟨x, p, q⟩ := at_one (N := N) hb hN hS i2 (v := 1) (by decide) (by decide) (by decide) k
    exact ⟨x, σ, _, by simp [f_W_at, ldR k0, k9, ldR r0, r2, isO c2, p, pb], q, hf⟩
  by_cases v2 : v = 2
  · subst v2
    obtain ⟨x, p, q⟩ := at_one (N := N) hb hN hS i3 (v := 2) (by decide) (by decide) (by decide) k
    exact ⟨x, σ, _, by simp [f_W_at, ldR k0, k9, ldR r0, r3, isO c3, p, pb], q, hf⟩
  refine ⟨-1, σ, ui s 0 0, by simp [f_W_at, v0, v1, v2], ?_, hf⟩
  by_cases h0 : v < 0
  · simp [f_M_at, stIr hb, h0]
  · have h2 : 2 < v := by
      obtain ⟨j, hj, rfl⟩ := nI_of h0
      have e0 : ¬ j = 0 := fun z => v0 (by rw [z]; rfl)
      have e1 : ¬ j = 1 := fun z => v1 (by rw [z]; rfl)
      have e2 : ¬ j = 2 := fun z => v2 (by rw [z]; rfl)
      exact nI_lt (a := 2) (by omega) hj
    simp [f_M_at, stIr hb, h0, h2]
end CN
