/-! THE LAW's LOOP -/
theorem SS.bn {c o Q N' : Nat} {σ : Hp} {s : RS} (h : SS c o Q σ s) (hN : hp_N σ ≤ N') : SS c o Q (bmp N' σ) s := by
  obtain ⟨V, es, n, z, W, L, t, ht, hS⟩ := h
  exact ⟨V, es, n, z, W, L, t, ht, hS.bn hN⟩
theorem SS.c0 {c o Q : Nat} {σ : Hp} {s : RS} (h : SS c o Q σ s) : hp_C σ c = some 0 := by
  obtain ⟨V, es, n, z, W, L, t, ht, hS⟩ := h
  exact hS.1.1.1
theorem reb {R : Type} {m : Nat} {b : Hp} {s : RS} {A : Option (R × Hp)} {G : Hp → Option (R × Hp)} {P : Hp → RS → Prop} (hb : hp_C b m = some 11) (h : ∀ b, hp_C b m = some 11 → ∃ r σ' s', A = some (r, σ') ∧ G (rh b m s) = some (r, rh b m s') ∧ P σ' s') : ∃ r σ' s', A = some (r, σ') ∧ G (bmp (hp_N σ') (rh b m s)) = some (r, rh (bmp (hp_N σ') b) m s') ∧ P σ' s' := by
  obtain ⟨r, σ', s', h1, -, -⟩ := h b hb
  obtain ⟨r2, σ2, s2, g1, g2, g3⟩ := h (bmp (hp_N σ') b) hb
  have e := h1.symm.trans g1
  cases e
  exact ⟨r, σ', s2, h1, g2, g3⟩
theorem reb2 {R R2 : Type} {m : Nat} {b : Hp} {s : RS} {A : Option (R × Hp)} {G : Hp → Option (R2 × Hp)} {P : R → R2 → Hp → RS → Prop} (hb : hp_C b m = some 11) (h : ∀ b, hp_C b m = some 11 → ∃ k r σ' s', A = some (k, σ') ∧ G (rh b m s) = some (r, rh b m s') ∧ P k r σ' s') : ∃ k r σ' s', A = some (k, σ') ∧ G (bmp (hp_N σ') (rh b m s)) = some (r, rh (bmp (hp_N σ') b) m s') ∧ P k r σ' s' := by
  obtain ⟨k, r, σ', s', h1, -, -⟩ := h b hb
  obtain ⟨k2, r2, σ2, s2, g1, g2, g3⟩ := h (bmp (hp_N σ') b) hb
  have e := h1.symm.trans g1
  cases e
  exact ⟨k, r2, σ', s2, h1, g2, g3⟩
theorem reb3 {R : Type} {m : Nat} {b : Hp} {s : RS} {A : Option (R × Hp)} {G : Hp → Option Hp} {P : R → Hp → RS → Prop} (hb : hp_C b m = some 11) (h : ∀ b, hp_C b m = some 11 → ∃ k σ' s', A = some (k, σ') ∧ G (rh b m s) = some (rh b m s') ∧ P k σ' s') : ∃ k σ' s', A = some (k, σ') ∧ G (bmp (hp_N σ') (rh b m s)) = some (rh (bmp (hp_N σ') b) m s') ∧ P k σ' s' := by
  obtain ⟨k, σ', s', h1, -, -⟩ := h b hb
  obtain ⟨k2, σ2, s2, g1, g2, g3⟩ := h (bmp (hp_N σ') b) hb
  have e := h1.symm.trans g1
  cases e
  exact ⟨k, σ', s2, h1, g2, g3⟩
theorem thrown_run {b : Hp} {m : Nat} {s : RS} (hb : hp_C b m = some 11) : f_M_thrown (some m) (rh b m s) = some (gi s 0, rh b m s) := by
  simp [f_M_thrown, ldIr hb]
/-- one turn -/
def LT (N : Nat) (xs : Nat → Int32) (L i c m o p Q : Nat) (σ b : Hp) (s : RS) : Prop := ∃ σ' b' s', f_L_law_53 N xs L (i + 1) (some c) (some m) (some o) (nI p) σ (rh b m s) = f_L_law_53 N xs L i (some c) (some m) (some o) (nI p + 5) σ' (rh b' m s') ∧ hp_C b' m = some 11 ∧ SS c o (Q + 1) σ' s'
section LW
variable {b σ : Hp} {m c o N L i p Q : Nat} {xs : Nat → Int32} {s : RS}
/-- the law's own checks at this turn -/
def LX (L p : Nat) : Prop := ¬ ((Int32.ofNat L) - 5 < nI p) ∧ ix_ (nI p) L = some p ∧ ix_ (nI p + 1) L = some (p + 1) ∧ ix_ (nI p + 2) L = some (p + 2) ∧ ix_ (nI p + 3) L = some (p + 3) ∧ ix_ (nI p + 4) L = some (p + 4)
theorem LX.mk' (hL : L ≤ 2563) (hp : p + 5 ≤ L) : LX L p := by
  refine ⟨fun h => ?_, ixN (by omega) (by omega), ?_, ?_, ?_, ?_⟩
  · have e5 : (5 : Int32) = nI 5 := rfl
    have : (Int32.ofNat L) - 5 = nI (L - 5) := by
      obtain ⟨k, rfl⟩ : ∃ k, L = k + 5 := ⟨L - 5, by omega⟩
      show nI (k + 5) - 5 = nI (k + 5 - 5)
      rw [← nI_add k 5, ← e5, Int32.add_sub_cancel, Nat.add_sub_cancel]
    rw [this] at h
    exact nI_nlt (a := L - 5) (b := p) (by omega) (by omega) h
  · rw [show (1 : Int32) = nI 1 from rfl, nI_add]; exact ixN (by omega) (by omega)
  · rw [show (2 : Int32) = nI 2 from rfl, nI_add]; exact ixN (by omega) (by omega)
  · rw [show (3 : Int32) = nI 3 from rfl, nI_add]; exact ixN (by omega) (by omega)
  · rw [show (4 : Int32) = nI 4 from rfl, nI_add]; exact ixN (by omega) (by omega)
theorem law_end (hL : L ≤ 2563) (hp : L < p + 5) (hp' : p ≤ 6000) {σ τ : Hp} : f_L_law_53 N xs L (i + 1) (some c) (some m) (some o) (nI p) σ τ = some 1 := by
  have h : (Int32.ofNat L) - 5 < nI p := by
    rw [Int32.lt_iff_toInt_lt, Int32.toInt_sub]
    have e1 : (Int32.ofNat L).toInt = (L : Int) := nI_toInt (n := L) (by omega)
    have e2 : (nI p).toInt = (p : Int) := nI_toInt (by omega)
    have e3 : (5 : Int32).toInt = 5 := by decide
    rw [e1, e2, e3, Int.bmod_eq_of_le (by omega) (by omega)]
    omega
  simp only [f_L_law_53, if_pos h]
theorem law_get (hx : LX L p) (hb : hp_C b m = some 11) (h : SS c o Q σ s) (hQ : Q + 1 ≤ 599) (hop : xs p &&& 15 = 0) : LT N xs L i c m o p Q σ b s := by
  obtain ⟨x, x0, x1, x2, x3, x4⟩ := hx
  obtain ⟨r, σ', s', e1, e2, e3⟩ := reb (G := f_M_get (some m) (xs (p + 1))) (P := fun σ' s' => SS c o (Q + 1) σ' s') hb (fun b hb => c_get hb h hQ (xs (p + 1)))
  have hO : is_O (bmp (hp_N σ') (rh b m s)) (some m) 11 = some m := isO hb
  refine ⟨bmp (hp_N σ') σ', bmp (hp_N σ') b, s', ?_, hb, e3.bn (Nat.le_refl _)⟩
  simp [f_L_law_53, f_L_law_681, x, x0, x1, x2, hop, isO h.c0, e1, pb, hO, e2, rhN]
  rfl
theorem law_has (hx : LX L p) (hb : hp_C b m = some 11) (h : SS c o Q σ s) (hQ : Q + 1 ≤ 599) (hop : xs p &&& 15 = 1) : LT N xs L i c m o p Q σ b s := by
  obtain ⟨x, x0, x1, x2, x3, x4⟩ := hx
  obtain ⟨r, σ', s', e1, e2, e3⟩ := reb (G := f_M_has (some m) (xs (p + 1))) (P := fun σ' s' => SS c o (Q + 1) σ' s') hb (fun b hb => c_has hb h hQ (xs (p + 1)))
  have hO : is_O (bmp (hp_N σ') (rh b m s)) (some m) 11 = some m := isO hb
  refine ⟨bmp (hp_N σ') σ', bmp (hp_N σ') b, s', ?_, hb, e3.bn (Nat.le_refl _)⟩
  simp [f_L_law_53, f_L_law_681, x, x0, x1, x2, hop, isO h.c0, e1, pb, hO, e2, rhN]
  rfl
theorem law_remove (hx : LX L p) (hb : hp_C b m = some 11) (hN : 10000 ≤ N) (h : SS c o Q σ s) (hQ : Q + 1 ≤ 599) (hop : xs p &&& 15 = 3) : LT N xs L i c m o p Q σ b s := by
  obtain ⟨x, x0, x1, x2, x3, x4⟩ := hx
  obtain ⟨r, σ', s', e1, e2, e3⟩ := reb (G := f_M_remove N (some m) (xs (p + 1))) (P := fun σ' s' => SS c o (Q + 1) σ' s') hb (fun b hb => c_remove hb hN h hQ (xs (p + 1)))
  have hO : is_O (bmp (hp_N σ') (rh b m s)) (some m) 11 = some m := isO hb
  refine ⟨bmp (hp_N σ') σ', bmp (hp_N σ') b, s', ?_, hb, e3.bn (Nat.le_refl _)⟩
  simp [f_L_law_53, f_L_law_681, x, x0, x1, x2, hop, isO h.c0, e1, pb, hO, e2, rhN]
  rfl
theorem law_refresh (hx : LX L p) (hb : hp_C b m = some 11) (h : SS c o Q σ s) (hQ : Q + 1 ≤ 599) (hop : xs p &&& 15 = 5) : LT N xs L i c m o p Q σ b s := by
  obtain ⟨x, x0, x1, x2, x3, x4⟩ := hx
  obtain ⟨r, σ', s', e1, e2, e3⟩ := reb (G := f_M_refresh (some m) (xs (p + 1))) (P := fun σ' s' => SS c o (Q + 1) σ' s') hb (fun b hb => c_refresh hb h hQ (xs (p + 1)))
  have hO : is_O (bmp (hp_N σ') (rh b m s)) (some m) 11 = some m := isO hb
  refine ⟨bmp (hp_N σ') σ', bmp (hp_N σ') b, s', ?_, hb, e3.bn (Nat.le_refl _)⟩
  simp [f_L_law_53, f_L_law_681, x, x0, x1, x2, hop, isO h.c0, e1, pb, hO, e2, rhN]
  rfl
theorem law_advance (hx : LX L p) (hb : hp_C b m = some 11) (h : SS c o Q σ s) (hQ : Q + 1 ≤ 599) (hop : xs p &&& 15 = 8) : LT N xs L i c m o p Q σ b s := by
  obtain ⟨x, x0, x1, x2, x3, x4⟩ := hx
  obtain ⟨r, σ', s', e1, e2, e3⟩ := reb (G := f_M_advance (some m) (xs (p + 1))) (P := fun σ' s' => SS c o (Q + 1) σ' s') hb (fun b hb => c_advance hb h hQ (xs (p + 1)))
  have hO : is_O (bmp (hp_N σ') (rh b m s)) (some m) 11 = some m := isO hb
  refine ⟨bmp (hp_N σ') σ', bmp (hp_N σ') b, s', ?_, hb, e3.bn (Nat.le_refl _)⟩
  simp [f_L_law_53, f_L_law_681, x, x0, x1, x2, hop, isO h.c0, e1, pb, hO, e2, lgc_eq0, rhN]
  rfl
theorem law_maintain (hx : LX L p) (hb : hp_C b m = some 11) (hN : 10000 ≤ N) (h : SS c o Q σ s) (hQ : Q + 1 ≤ 599) (hop : xs p &&& 15 = 9) : LT N xs L i c m o p Q σ b s := by
  obtain ⟨x, x0, x1, x2, x3, x4⟩ := hx
  obtain ⟨r, σ', s', e1, e2, e3⟩ := reb (G := f_M_maintain N (some m)) (P := fun σ' s' => SS c o (Q + 1) σ' s') hb (fun b hb => c_maintain hb hN h hQ )
  have hO : is_O (bmp (hp_N σ') (rh b m s)) (some m) 11 = some m := isO hb
  refine ⟨bmp (hp_N σ') σ', bmp (hp_N σ') b, s', ?_, hb, e3.bn (Nat.le_refl _)⟩
  simp [f_L_law_53, f_L_law_681, x, x0, x1, x2, hop, isO h.c0, e1, pb, hO, e2, rhN]
  rfl
theorem law_count (hx : LX L p) (hb : hp_C b m = some 11) (hN : 10000 ≤ N) (h : SS c o Q σ s) (hQ : Q + 1 ≤ 599) (hop : xs p &&& 15 = 10) : LT N xs L i c m o p Q σ b s := by
  obtain ⟨x, x0, x1, x2, x3, x4⟩ := hx
  obtain ⟨r, σ', s', e1, e2, e3⟩ := reb (G := f_M_count N (some m) (xs (p + 1))) (P := fun σ' s' => SS c o (Q + 1) σ' s') hb (fun b hb => c_count hb hN h hQ (xs (p + 1)))
  have hO : is_O (bmp (hp_N σ') (rh b m s)) (some m) 11 = some m := isO hb
  refine ⟨bmp (hp_N σ') σ', bmp (hp_N σ') b, s', ?_, hb, e3.bn (Nat.le_refl _)⟩
  simp [f_L_law_53, f_L_law_681, x, x0, x1, x2, hop, isO h.c0, e1, pb, hO, e2, rhN]
  rfl
theorem law_often (hx : LX L p) (hb : hp_C b m = some 11) (hN : 10000 ≤ N) (h : SS c o Q σ s) (hQ : Q + 1 ≤ 599) (hop : xs p &&& 15 = 11) : LT N xs L i c m o p Q σ b s := by
  obtain ⟨x, x0, x1, x2, x3, x4⟩ := hx
  obtain ⟨r, σ', s', e1, e2, e3⟩ := reb (G := f_M_often N (some m) (xs (p + 1))) (P := fun σ' s' => SS c o (Q + 1) σ' s') hb (fun b hb => c_often hb hN h hQ (xs (p + 1)))
  have hO : is_O (bmp (hp_N σ') (rh b m s)) (some m) 11 = some m := isO hb
  refine ⟨bmp (hp_N σ') σ', bmp (hp_N σ') b, s', ?_, hb, e3.bn (Nat.le_refl _)⟩
  simp [f_L_law_53, f_L_law_681, x, x0, x1, x2, hop, isO h.c0, e1, pb, hO, e2, rhN]
  rfl
theorem law_at (hx : LX L p) (hb : hp_C b m = some 11) (hN : 10000 ≤ N) (h : SS c o Q σ s) (hQ : Q + 1 ≤ 599) (hop : xs p &&& 15 = 12) : LT N xs L i c m o p Q σ b s := by
  obtain ⟨x, x0, x1, x2, x3, x4⟩ := hx
  obtain ⟨r, σ', s', e1, e2, e3⟩ := reb (G := f_M_at N (some m) (xs (p + 1)) (xs (p + 2))) (P := fun σ' s' => SS c o (Q + 1) σ' s') hb (fun b hb => c_at hb hN h hQ (xs (p + 1)) (xs (p + 2)))
  have hO : is_O (bmp (hp_N σ') (rh b m s)) (some m) 11 = some m := isO hb
  refine ⟨bmp (hp_N σ') σ', bmp (hp_N σ') b, s', ?_, hb, e3.bn (Nat.le_refl _)⟩
  simp [f_L_law_53, f_L_law_681, x, x0, x1, x2, hop, isO h.c0, e1, pb, hO, e2, rhN]
  rfl
theorem law_listened (hx : LX L p) (hb : hp_C b m = some 11) (h : SS c o Q σ s) (hQ : Q + 1 ≤ 599) (hop : xs p &&& 15 = 13) : LT N xs L i c m o p Q σ b s := by
  obtain ⟨x, x0, x1, x2, x3, x4⟩ := hx
  obtain ⟨r, σ', s', e1, e2, e3⟩ := reb (G := f_M_listened (some m) (xs (p + 1)) (xs (p + 2))) (P := fun σ' s' => SS c o (Q + 1) σ' s') hb (fun b hb => c_listened hb h hQ (xs (p + 1)) (xs (p + 2)))
  have hO : is_O (bmp (hp_N σ') (rh b m s)) (some m) 11 = some m := isO hb
  refine ⟨bmp (hp_N σ') σ', bmp (hp_N σ') b, s', ?_, hb, e3.bn (Nat.le_refl _)⟩
  simp [f_L_law_53, f_L_law_681, x, x0, x1, x2, hop, isO h.c0, e1, pb, hO, e2, rhN]
  rfl
theorem law_put (hx : LX L p) (hb : hp_C b m = some 11) (hN : 10000 ≤ N) (h : SS c o Q σ s) (hQ : Q + 1 ≤ 599) (hop : xs p &&& 15 = 2) : LT N xs L i c m o p Q σ b s := by
  obtain ⟨x, x0, x1, x2, x3, x4⟩ := hx
  obtain ⟨kx, r, σ', s', e1, e2, e4, e3, e5⟩ := reb2 (G := f_M_put N (some m) (xs (p + 1)) (xs (p + 2)) (xs (p + 3)) (xs (p + 4))) (P := fun kx r σ' s' => gi s' 0 = kx ∧ SS c o (Q + 1) σ' s' ∧ (kx = 0 → (r = 0 ∧ al_L σ' 1 (some o) 0 = some 0) ∨ (¬ r = 0 ∧ al_L σ' 1 (some o) 0 = some 1))) hb (fun b hb => c_put hb hN h hQ (xs (p + 1)) (xs (p + 2)) (xs (p + 3)) (xs (p + 4)))
  have hO : is_O (bmp (hp_N σ') (rh b m s)) (some m) 11 = some m := isO hb
  have hO2 : is_O (rh (bmp (hp_N σ') b) m s') (some m) 11 = some m := isO hb
  have ht := thrown_run (b := bmp (hp_N σ') b) (m := m) (s := s') hb
  rw [e4] at ht
  refine ⟨bmp (hp_N σ') (bmp (hp_N σ') σ'), bmp (hp_N σ') b, s', ?_, hb, (e3.bn (Nat.le_refl _)).bn (Nat.le_refl _)⟩
  by_cases hk : kx = 0
  · subst hk
    rcases e5 rfl with ⟨hr, ha⟩ | ⟨hr, ha⟩
    · have ha' : al_L (bmp (hp_N σ') (bmp (hp_N σ') σ')) 1 (some o) 0 = some 0 := ha
      have hN1 : hp_N (rh (bmp (hp_N σ') b) m s') = hp_N σ' := rfl
      simp [f_L_law_53, f_L_law_681, f_L_law_280, f_L_law_286, x, x0, x1, x2, x3, x4, hop, e1, pb, hO, e2, hO2, ht, hN1, ha', hr, lgc_eq0]
    · have ha' : al_L (bmp (hp_N σ') (bmp (hp_N σ') σ')) 1 (some o) 0 = some 1 := ha
      have hN1 : hp_N (rh (bmp (hp_N σ') b) m s') = hp_N σ' := rfl
      simp [f_L_law_53, f_L_law_681, f_L_law_280, f_L_law_286, x, x0, x1, x2, x3, x4, hop, e1, pb, hO, e2, hO2, ht, hN1, ha', hr, lgc_eq0]
  · have hN1 : hp_N (rh (bmp (hp_N σ') b) m s') = hp_N σ' := rfl
    simp [f_L_law_53, f_L_law_681, f_L_law_280, f_L_law_286, x, x0, x1, x2, x3, x4, hop, e1, pb, hO, e2, hO2, ht, hN1, hk]
theorem law_finish (hx : LX L p) (hb : hp_C b m = some 11) (hN : 10000 ≤ N) (h : SS c o Q σ s) (hQ : Q + 1 ≤ 599) (hop : xs p &&& 15 = 6) : LT N xs L i c m o p Q σ b s := by
  obtain ⟨x, x0, x1, x2, x3, x4⟩ := hx
  obtain ⟨kx, r, σ', s', e1, e2, e4, e3, e5⟩ := reb2 (G := f_M_finish N (some m) (xs (p + 1)) (xs (p + 2)) (xs (p + 3))) (P := fun kx r σ' s' => gi s' 0 = kx ∧ SS c o (Q + 1) σ' s' ∧ (kx = 0 → (r = 0 ∧ al_L σ' 1 (some o) 0 = some 0) ∨ (¬ r = 0 ∧ al_L σ' 1 (some o) 0 = some 1))) hb (fun b hb => c_finish hb hN h hQ (xs (p + 1)) (xs (p + 2)) (xs (p + 3)))
  have hO : is_O (bmp (hp_N σ') (rh b m s)) (some m) 11 = some m := isO hb
  have hO2 : is_O (rh (bmp (hp_N σ') b) m s') (some m) 11 = some m := isO hb
  have ht := thrown_run (b := bmp (hp_N σ') b) (m := m) (s := s') hb
  rw [e4] at ht
  refine ⟨bmp (hp_N σ') (bmp (hp_N σ') σ'), bmp (hp_N σ') b, s', ?_, hb, (e3.bn (Nat.le_refl _)).bn (Nat.le_refl _)⟩
  by_cases hk : kx = 0
  · subst hk
    rcases e5 rfl with ⟨hr, ha⟩ | ⟨hr, ha⟩
    · have ha' : al_L (bmp (hp_N σ') (bmp (hp_N σ') σ')) 1 (some o) 0 = some 0 := ha
      have hN1 : hp_N (rh (bmp (hp_N σ') b) m s') = hp_N σ' := rfl
      simp [f_L_law_53, f_L_law_681, f_L_law_473, f_L_law_479, x, x0, x1, x2, x3, x4, hop, e1, pb, hO, e2, hO2, ht, hN1, ha', hr, lgc_eq0]
    · have ha' : al_L (bmp (hp_N σ') (bmp (hp_N σ') σ')) 1 (some o) 0 = some 1 := ha
      have hN1 : hp_N (rh (bmp (hp_N σ') b) m s') = hp_N σ' := rfl
      simp [f_L_law_53, f_L_law_681, f_L_law_473, f_L_law_479, x, x0, x1, x2, x3, x4, hop, e1, pb, hO, e2, hO2, ht, hN1, ha', hr, lgc_eq0]
  · have hN1 : hp_N (rh (bmp (hp_N σ') b) m s') = hp_N σ' := rfl
    simp [f_L_law_53, f_L_law_681, f_L_law_473, f_L_law_479, x, x0, x1, x2, x3, x4, hop, e1, pb, hO, e2, hO2, ht, hN1, hk]
theorem law_load (hx : LX L p) (hb : hp_C b m = some 11) (h : SS c o Q σ s) (hQ : Q + 1 ≤ 599) (hop : xs p &&& 15 = 4) : LT N xs L i c m o p Q σ b s := by
  obtain ⟨x, x0, x1, x2, x3, x4⟩ := hx
  obtain ⟨kx, r, σ', s', e1, e2, e4, e3, e5⟩ := reb2 (G := f_M_load (some m) (xs (p + 1))) (P := fun kx r σ' s' => gi s' 0 = kx ∧ SS c o (Q + 1) σ' s' ∧ (kx = 0 → al_L σ' 1 (some o) 0 = some r.toInt64)) hb (fun b hb => c_load hb h hQ (xs (p + 1)))
  have hO : is_O (bmp (hp_N σ') (rh b m s)) (some m) 11 = some m := isO hb
  have hO2 : is_O (rh (bmp (hp_N σ') b) m s') (some m) 11 = some m := isO hb
  have ht := thrown_run (b := bmp (hp_N σ') b) (m := m) (s := s') hb
  have hN1 : hp_N (rh (bmp (hp_N σ') b) m s') = hp_N σ' := rfl
  rw [e4] at ht
  refine ⟨bmp (hp_N σ') (bmp (hp_N σ') σ'), bmp (hp_N σ') b, s', ?_, hb, (e3.bn (Nat.le_refl _)).bn (Nat.le_refl _)⟩
  by_cases hk : kx = 0
  · subst hk
    have ha' : al_L (bmp (hp_N σ') (bmp (hp_N σ') σ')) 1 (some o) 0 = some r.toInt64 := e5 rfl
    simp [f_L_law_53, f_L_law_681, f_L_law_367, x, x0, x1, hop, e1, pb, hO, e2, hO2, ht, hN1, ha', lgc_eq0]
  · simp [f_L_law_53, f_L_law_681, f_L_law_367, x, x0, x1, hop, e1, pb, hO, e2, hO2, ht, hN1, hk]
theorem law_fail (hx : LX L p) (hb : hp_C b m = some 11) (h : SS c o Q σ s) (hQ : Q + 1 ≤ 599) (hop : xs p &&& 15 = 7) : LT N xs L i c m o p Q σ b s := by
  obtain ⟨x, x0, x1, x2, x3, x4⟩ := hx
  obtain ⟨kx, σ', s', e1, e2, e4, e3⟩ := reb3 (G := f_M_fail (some m) (xs (p + 1))) (P := fun kx σ' s' => gi s' 0 = kx ∧ SS c o (Q + 1) σ' s') hb (fun b hb => c_fail hb h hQ (xs (p + 1)))
  have hO : is_O (bmp (hp_N σ') (rh b m s)) (some m) 11 = some m := isO hb
  have hO2 : is_O (rh (bmp (hp_N σ') b) m s') (some m) 11 = some m := isO hb
  have ht := thrown_run (b := bmp (hp_N σ') b) (m := m) (s := s') hb
  have hN1 : hp_N (rh (bmp (hp_N σ') b) m s') = hp_N σ' := rfl
  rw [e4] at ht
  refine ⟨bmp (hp_N σ') (bmp (hp_N σ') σ'), bmp (hp_N σ') b, s', ?_, hb, (e3.bn (Nat.le_refl _)).bn (Nat.le_refl _)⟩
  simp [f_L_law_53, f_L_law_681, x, x0, x1, hop, e1, pb, hO, e2, hO2, ht, hN1]
theorem law_none (hx : LX L p) (hb : hp_C b m = some 11) (h : SS c o Q σ s) (hQ : Q + 1 ≤ 599) (hop : xs p &&& 15 = 14 ∨ xs p &&& 15 = 15) : LT N xs L i c m o p Q σ b s := by
  obtain ⟨x, x0, x1, x2, x3, x4⟩ := hx
  obtain ⟨V, es, n, z, W, LL, t, ht, hn, hV, hS⟩ := h.op hQ
  refine ⟨σ, b, s, ?_, hb, SS.cl hS (by omega) ht⟩
  rcases hop with hop | hop <;> simp [f_L_law_53, f_L_law_681, x, x0, hop]
theorem law_turn (hx : LX L p) (hb : hp_C b m = some 11) (hN : 10000 ≤ N) (h : SS c o Q σ s) (hQ : Q + 1 ≤ 599) : LT N xs L i c m o p Q σ b s := by
  obtain ⟨j, hj, he⟩ : ∃ j, j < 16 ∧ xs p &&& 15 = nI j := pk_andE (xs p) 4 (by decide)
  rcases (show j = 0 ∨ j = 1 ∨ j = 2 ∨ j = 3 ∨ j = 4 ∨ j = 5 ∨ j = 6 ∨ j = 7 ∨ j = 8 ∨ j = 9 ∨ j = 10 ∨ j = 11 ∨ j = 12 ∨ j = 13 ∨ j = 14 ∨ j = 15 by omega) with rfl | rfl | rfl | rfl | rfl | rfl | rfl | rfl | rfl | rfl | rfl | rfl | rfl | rfl | rfl | rfl
  · exact law_get hx hb h hQ he
  · exact law_has hx hb h hQ he
  · exact law_put hx hb hN h hQ he
  · exact law_remove hx hb hN h hQ he
  · exact law_load hx hb h hQ he
  · exact law_refresh hx hb h hQ he
  · exact law_finish hx hb hN h hQ he
  · exact law_fail hx hb h hQ he
  · exact law_advance hx hb h hQ he
  · exact law_maintain hx hb hN h hQ he
  · exact law_count hx hb hN h hQ he
  · exact law_often hx hb hN h hQ he
  · exact law_at hx hb hN h hQ he
  · exact law_listened hx hb h hQ he
  · exact law_none hx hb h hQ (Or.inl he)
  · exact law_none hx hb h hQ (Or.inr he)
end LW
theorem law_loop {m c o N L : Nat} {xs : Nat → Int32} (hL : L ≤ 2563) (hN : 10000 ≤ N) : ∀ (i Q : Nat) (σ b : Hp) (s : RS), Q + i ≤ 599 → SS c o Q σ s → hp_C b m = some 11 → L < 8 + 5 * (Q + i) → f_L_law_53 N xs L (i + 1) (some c) (some m) (some o) (nI (3 + 5 * Q)) σ (rh b m s) = some 1 := by
  intro i
  induction i with
  | zero =>
    intro Q σ b s hQ h hb hl
    exact law_end hL (by omega) (by omega)
  | succ i ih =>
    intro Q σ b s hQ h hb hl
    by_cases hp : 3 + 5 * Q + 5 ≤ L
    · obtain ⟨σ', b', s', e, hb', h'⟩ := law_turn (i := i + 1) (xs := xs) (LX.mk' hL hp) hb hN h (by omega)
      rw [e, show (5 : Int32) = nI 5 from rfl, nI_add, show 3 + 5 * Q + 5 = 3 + 5 * (Q + 1) by omega]
      exact ih (Q + 1) σ' b' s' (by omega) h' hb' (by omega)
    · exact law_end hL (by omega) (by omega)
theorem pure_holds : Pure := by
  intro xs L h hL
  refine ⟨10000, 600, by omega, ?_⟩
  obtain ⟨mx, h1, h5, hmx, hcl⟩ := cl_ok (cellv xs L 0)
  obtain ⟨σ, T, e1, hr, hC, hR, h18, h19, h20, hI, hA⟩ := wInit (c := h) (N := 10000) (by omega) h5 (cellv xs L 1) (cellv xs L 2) hmx
  have hn : hp_N σ = h + 22 := hr.n 22 hC.1
  obtain ⟨b, s, e2, hb, hbn, hs⟩ := mInit (m := h + 22) (N := 10000) (β := bmp (h + 22) (bmp (h + 1) (em h))) rfl (by omega) (cellv xs L 0) (cellv xs L 1) (cellv xs L 2) h5 hcl
  have hS := start_ok hr hC hR h18 h19 h20 hI hA szz_ok h1 h5 hs
  have e0 : hp_N (em h) = h := rfl
  unfold f_L_law
  rw [e0, e1, Option.bind_some, hn]
  rw [show hp_N (bmp (h + 22) (bmp (h + 1) (em h))) = h + 22 from rfl, e2, Option.bind_some]
  rw [rhN, hbn]
  exact law_loop (c := h) (m := h + 22) (o := h + 47) hL (by omega) 599 0 (outH h σ) (bmp (h + 48) b) s (by omega) hS hb (by omega)
theorem i_vc : Claimed_1_1 ∧ Claimed_1_2 := vc_of pure_holds
