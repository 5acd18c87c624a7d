/-! the counts of the class and of the reference -/
def zok (z : Nat) : Prop := z = 8 ∨ z = 16 ∨ z = 32 ∨ z = 64 ∨ z = 128 ∨ z = 256 ∨ z = 512 ∨ z = 1024 ∨ z = 2048 ∨ z = 4096 ∨ z = 8192
theorem zok.le {z : Nat} (h : zok z) : 8 ≤ z ∧ z ≤ 8192 ∧ z % 8 = 0 := by unfold zok at h; omega
theorem hash_lt {z : Nat} (h : zok z) (x : Int32) : ∃ j, j < z ∧ x &&& (nI z - 1) = nI j := by
  rcases h with rfl | rfl | rfl | rfl | rfl | rfl | rfl | rfl | rfl | rfl | rfl
  · exact pk_andE x 3 (by decide)
  · exact pk_andE x 4 (by decide)
  · exact pk_andE x 5 (by decide)
  · exact pk_andE x 6 (by decide)
  · exact pk_andE x 7 (by decide)
  · exact pk_andE x 8 (by decide)
  · exact pk_andE x 9 (by decide)
  · exact pk_andE x 10 (by decide)
  · exact pk_andE x 11 (by decide)
  · exact pk_andE x 12 (by decide)
  · exact pk_andE x 13 (by decide)
/-- the count at a place of the class -/
def cF (W : Nat → Int32) (P : Nat) : Nat := nib (W (P / 8)) (P % 8)
theorem cF_lt (W : Nat → Int32) (P : Nat) : cF W P < 16 := nib_lt _ _
def CTT (σ : Hp) (c : Nat) (s : RS) (z : Nat) (W : Nat → Int32) : Prop :=
  hp_C σ (c + 15) = some 2 ∧ hp_R σ 2 1 (c + 15) = some (c + 16) ∧ hp_I σ 2 0 (c + 15) = nI z ∧ gi s 4 = nI z ∧ hp_I σ 2 2 (c + 15) = gi s 29 ∧ hp_A σ (c + 16) = some (0, z / 2, .inl W) ∧ (∀ i j, i < 4 → j < z → ga s 30 (8192 * i + j) = nI (cF W (i * z + j))) ∧ zok z ∧ ∀ i, i < 4 → ga s 31 i = oddn i
/-- what counting leaves alone -/
def MC (c : Nat) (σ σ' : Hp) : Prop := hp_N σ' = hp_N σ ∧ (∀ b, hp_C σ' b = hp_C σ b) ∧ (∀ b, b ≠ c + 16 → hp_A σ' b = hp_A σ b) ∧ (∀ x k b, hp_L σ' x k b = hp_L σ x k b) ∧ (∀ x k b, x ≠ 2 → hp_I σ' x k b = hp_I σ x k b) ∧ (∀ x k b, hp_R σ' x k b = hp_R σ x k b)
def RC (s s' : RS) : Prop := (∀ k, k ≠ 29 → gi s' k = gi s k) ∧ (∀ k, k ≠ 30 → ∀ j, ga s' k j = ga s k j) ∧ (∀ k, gl s' k = gl s k) ∧ ∀ k j, gb s' k j = gb s k j
theorem MC.rf {c : Nat} {σ : Hp} : MC c σ σ := ⟨rfl, fun _ => rfl, fun _ _ => rfl, fun _ _ _ => rfl, fun _ _ _ _ => rfl, fun _ _ _ => rfl⟩
theorem MC.trans {c : Nat} {σ σ1 σ2 : Hp} (h : MC c σ σ1) (g : MC c σ1 σ2) : MC c σ σ2 := ⟨g.1.trans h.1, fun b => (g.2.1 b).trans (h.2.1 b), fun b hb => (g.2.2.1 b hb).trans (h.2.2.1 b hb), fun x k b => (g.2.2.2.1 x k b).trans (h.2.2.2.1 x k b), fun x k b hx => (g.2.2.2.2.1 x k b hx).trans (h.2.2.2.2.1 x k b hx), fun x k b => (g.2.2.2.2.2 x k b).trans (h.2.2.2.2.2 x k b)⟩
theorem MC.A {c : Nat} {σ : Hp} {x : Nat × vp_A} : MC c σ (up_A σ (c + 16) x) := ⟨rfl, fun _ => rfl, fun b hb => by rw [hA_A, if_neg hb], fun _ _ _ => rfl, fun _ _ _ _ => rfl, fun _ _ _ => rfl⟩
theorem MC.I {c k a : Nat} {σ : Hp} {x : Int32} : MC c σ (up_I σ 2 k a x) := ⟨rfl, fun _ => rfl, fun _ _ => rfl, fun _ _ _ => rfl, fun y j b h => by rw [hI_I, if_neg (fun z => h z.1)], fun _ _ _ => rfl⟩
theorem RC.rf {s : RS} : RC s s := ⟨fun _ _ => rfl, fun _ _ _ => rfl, fun _ => rfl, fun _ _ => rfl⟩
theorem RC.trans {s s1 s2 : RS} (h : RC s s1) (g : RC s1 s2) : RC s s2 := ⟨fun k hk => (g.1 k hk).trans (h.1 k hk), fun k hk j => (g.2.1 k hk j).trans (h.2.1 k hk j), fun k => (g.2.2.1 k).trans (h.2.2.1 k), fun k j => (g.2.2.2 k j).trans (h.2.2.2 k j)⟩
theorem RC.A {s : RS} {j : Nat} {x : Int32} : RC s (ua s 30 j x) := ⟨fun _ _ => rfl, fun k hk i => by rw [gaua, if_neg (fun z => hk z.1)], fun _ => rfl, fun _ _ => rfl⟩
theorem RC.I {s : RS} {x : Int32} : RC s (ui s 29 x) := ⟨fun k hk => by rw [giui, if_neg hk], fun _ _ _ => rfl, fun _ => rfl, fun _ _ => rfl⟩
section CTs
variable {b σ : Hp} {m c z N : Nat} {s : RS} {W : Nat → Int32}
def hsh (z row : Nat) (key : Int32) : Int32 := iushr_ ((key + 1) * oddn row) 7 &&& (nI z - 1)
theorem CTT.placeC (h : CTT σ c s z W) {row : Nat} (hr : row < 4) (key : Int32) : f_Co_placeOf (some (c + 15)) (nI row) key σ = some (nI row * nI z + hsh z row key, σ) := by
  obtain ⟨h1, h2, h3, h4, h5, h6, h7, h8, h9⟩ := h
  have hi : ix_ (nI row) 4 = some row := ixN hr (by decide)
  simp [f_Co_placeOf, ldI h1, hi, h3, hsh]
theorem CTT.placeR (hb : hp_C b m = some 11) (h : CTT σ c s z W) {row : Nat} (hr : row < 4) (key : Int32) : f_M_place (some m) (nI row) key (rh b m s) = some (8192 * nI row + hsh z row key, rh b m s) := by
  obtain ⟨h1, h2, h3, h4, h5, h6, h7, h8, h9⟩ := h
  have hi : ix_ (nI row) 4 = some row := ixN hr (by decide)
  simp [f_M_place, ldRr hb, ldIr hb, al31, hi, h4, h9 row hr, hsh]
theorem iushr3 {P : Nat} (h : P < 2 ^ 31) : iushr_ (nI P) 3 = nI (P / 8) := by
  unfold iushr_
  rw [pk_ushrN (by omega) 3 3 (by decide)]
theorem and7 {P : Nat} (h : P < 2 ^ 31) : nI P &&& 7 = nI (P % 8) := pk_andN (by omega) 3 (by decide)
theorem n4 (q : Nat) : nI q * 4 = nI (q * 4) := pk_mul q 4
theorem n8192 (q : Nat) : 8192 * nI q = nI (8192 * q) := pk_mul 8192 q
/-- the word and the count of a row's place -/
theorem CTT.at (h : CTT σ c s z W) {row : Nat} (hr : row < 4) (key : Int32) : ∃ j, j < z ∧ hsh z row key = nI j ∧ row * z + j < 2 ^ 31 ∧ (row * z + j) / 8 < z / 2 ∧ ix_ (nI (8192 * row + j)) 32768 = some (8192 * row + j) ∧ ix_ (nI ((row * z + j) / 8)) (z / 2) = some ((row * z + j) / 8) := by
  obtain ⟨j, hj, he⟩ := hash_lt h.2.2.2.2.2.2.2.1 (iushr_ ((key + 1) * oddn row) 7)
  have hz := h.2.2.2.2.2.2.2.1.le
  have h1 : row * z ≤ 3 * z := Nat.mul_le_mul_right z (by omega)
  exact ⟨j, hj, he, by omega, by omega, ixN (by omega) (by omega), ixN (by omega) (by omega)⟩
theorem least_loop (hb : hp_C b m = some 11) (h : CTT σ c s z W) (key : Int32) : ∀ (d row : Nat), row + d = 4 → ∀ (i : Nat) (v : Int32), d < i → ∃ r, f_Co_leastOf_5 N i (some (c + 15)) key v (nI row) σ = some (r, σ) ∧ f_M_often0_5 N i (some m) key v (nI row) (rh b m s) = some (r, rh b m s) := by
  intro d
  induction d with
  | zero =>
    intro row hd i v hi
    have : row = 4 := by omega
    subst this
    cases i with
    | zero => omega
    | succ i => exact ⟨v, by simp [f_Co_leastOf_5, show nI 4 = 4 from rfl], by simp [f_M_often0_5, show nI 4 = 4 from rfl]⟩
  | succ d ih =>
    intro row hd i v hi
    cases i with
    | zero => omega
    | succ i =>
      obtain ⟨j, hj, he, hP, hQ, i1, i2⟩ := h.at (row := row) (by omega) key
      have hp1 := h.placeC (row := row) (by omega) key
      have hp2 := h.placeR (b := b) (m := m) hb (row := row) (by omega) key
      rw [he, pk_mul, nI_add] at hp1
      rw [he, n8192, nI_add] at hp2
      have hlt : ¬ (4 : Int32) ≤ nI row := nI_ge (b := 4) (by omega) (by omega)
      obtain ⟨h1, h2, h3, h4, h5, h6, h7, h8, h9⟩ := id h
      have hc := h7 row j (by omega) hj
      have hn : iushr_ (W ((row * z + j) / 8)) (nI ((row * z + j) % 8 * 4)) &&& 15 = nI (cF W (row * z + j)) := nib_get _ (Nat.mod_lt _ (by decide))
      obtain ⟨r, f1, f2⟩ := ih (row + 1) (by omega) i (imin_ v (nI (cF W (row * z + j)))) (by omega)
      rw [← nI_1] at f1 f2
      refine ⟨r, ?_, ?_⟩
      · simp [f_Co_leastOf_5, hlt, isO h1, hp1, pb, ldR h1, h2, iushr3 hP, and7 hP, n4, alI h6 i2, hn, f1]
      · by_cases hle : v ≤ nI (cF W (row * z + j))
        · have : imin_ v (nI (cF W (row * z + j))) = v := by unfold imin_; rw [if_neg (Int32.not_lt.mpr hle)]
          rw [this] at f2
          simp [f_M_often0_5, f_M_often0_40, hlt, isOr hb, ldRr hb, hp2, pb, al30, i1, hc, hle, f2]
        · have : imin_ v (nI (cF W (row * z + j))) = nI (cF W (row * z + j)) := by unfold imin_; rw [if_pos (Int32.not_le.mp hle)]
          rw [this] at f2
          simp [f_M_often0_5, f_M_often0_40, hlt, isOr hb, ldRr hb, hp2, pb, al30, i1, hc, hle, f2]
theorem CTT.least (hb : hp_C b m = some 11) (h : CTT σ c s z W) (hN : 1000 ≤ N) (key : Int32) : ∃ r, f_Co_leastOf N (some (c + 15)) key σ = some (r, σ) ∧ f_M_often0 N (some m) key (rh b m s) = some (r, rh b m s) := least_loop hb h key 4 0 rfl N 15 (by omega)
/-! halving -/
def oS (W : Nat → Int32) : Nat → Nat
  | 0 => 0
  | t + 1 => oS W t + cF W t % 2
theorem oS_le (W : Nat → Int32) (t : Nat) : oS W t ≤ t := by
  induction t with
  | zero => exact Nat.le_refl _
  | succ t ih => unfold oS; omega
theorem oS_8 (W : Nat → Int32) (v : Nat) : oS W (8 * (v + 1)) = oS W (8 * v) + odds (W v) := by
  have e : 8 * (v + 1) = 8 * v + 1 + 1 + 1 + 1 + 1 + 1 + 1 + 1 := by omega
  rw [e]
  simp only [oS]
  have hh : ∀ q, q < 8 → cF W (8 * v + q) = nib (W v) q := by
    intro q hq
    unfold cF
    rw [show (8 * v + q) / 8 = v by omega, show (8 * v + q) % 8 = q by omega]
  have h0 := hh 0 (by omega); have h1 := hh 1 (by omega); have h2 := hh 2 (by omega); have h3 := hh 3 (by omega)
  have h4 := hh 4 (by omega); have h5 := hh 5 (by omega); have h6 := hh 6 (by omega); have h7 := hh 7 (by omega)
  simp only [Nat.add_assoc] at *
  simp only [Nat.add_zero, Nat.reduceAdd] at *
  rw [h0, h1, h2, h3, h4, h5, h6, h7]
  unfold odds
  omega
theorem halveC_loop (hC : hp_C σ (c + 15) = some 2) (hR : hp_R σ 2 1 (c + 15) = some (c + 16)) (hz : zok z) : ∀ (d v : Nat), v + d = z / 2 → ∀ (i : Nat) (σ1 : Hp) (W1 : Nat → Int32), d < i → MC c σ σ1 → hp_A σ1 (c + 16) = some (0, z / 2, .inl W1) → (∀ j, j < z / 2 → W1 j = if j < v then hv (W j) else W j) → hp_I σ1 2 2 (c + 15) = hp_I σ 2 2 (c + 15) → hp_I σ1 2 0 (c + 15) = hp_I σ 2 0 (c + 15) → ∃ σ' W', f_Co_halve_4 N i (some (c + 15)) (nI (oS W (8 * v))) (nI v) σ1 = some σ' ∧ MC c σ σ' ∧ hp_A σ' (c + 16) = some (0, z / 2, .inl W') ∧ (∀ j, j < z / 2 → W' j = hv (W j)) ∧ hp_I σ' 2 2 (c + 15) = (hp_I σ 2 2 (c + 15) - nI (oS W (4 * z)) / 4) / 2 ∧ hp_I σ' 2 0 (c + 15) = hp_I σ 2 0 (c + 15) := by
  have hzz := hz.le
  intro d
  induction d with
  | zero =>
    intro v hd i σ1 W1 hi hM hA hW hI hI0
    cases i with
    | zero => omega
    | succ i =>
      have hv : v = z / 2 := by omega
      subst hv
      have h1 : hp_C σ1 (c + 15) = some 2 := by rw [hM.2.1]; exact hC
      have h2 : hp_R σ1 2 1 (c + 15) = some (c + 16) := by rw [hM.2.2.2.2.2]; exact hR
      have hle : nI (z / 2) ≤ nI (z / 2) := Int32.le_refl _
      have e8 : 8 * (z / 2) = 4 * z := by omega
      rw [e8]
      refine ⟨up_I σ1 2 2 (c + 15) ((hp_I σ 2 2 (c + 15) - nI (oS W (4 * z)) / 4) / 2), W1, ?_, hM.trans MC.I, hA, fun j hj => by rw [hW j hj, if_pos hj], by simp [hI_I], ?_⟩
      · simp [f_Co_halve_4, ldR h1, h2, alN hA, hle, ldI h1, stI h1, hI]
      · rw [hI_I, if_neg (by simp)]; exact hI0
  | succ d ih =>
    intro v hd i σ1 W1 hi hM hA hW hI hI0
    cases i with
    | zero => omega
    | succ i =>
      have h1 : hp_C σ1 (c + 15) = some 2 := by rw [hM.2.1]; exact hC
      have h2 : hp_R σ1 2 1 (c + 15) = some (c + 16) := by rw [hM.2.2.2.2.2]; exact hR
      have hlt : ¬ nI (z / 2) ≤ nI v := nI_ge (by omega) (by omega)
      have iv : ix_ (nI v) (z / 2) = some v := ixN (by omega) (by omega)
      have hWv : W1 v = W v := by rw [hW v (by omega), if_neg (by omega)]
      obtain ⟨σ', W', f1, r1⟩ := ih (v + 1) (by omega) i (up_A σ1 (c + 16) (0, z / 2, .inl (va_up W1 v (hv (W v))))) (va_up W1 v (hv (W v))) (by omega) (hM.trans MC.A) (by rw [hA_A, if_pos rfl]) (fun j hj => by
        unfold va_up
        by_cases hjv : j = v
        · subst hjv; simp
        · rw [if_neg hjv, hW j hj]
          by_cases hjl : j < v
          · rw [if_pos hjl, if_pos (by omega)]
          · rw [if_neg hjl, if_neg (by omega)]) hI hI0
      refine ⟨σ', W', ?_, r1⟩
      rw [← nI_1, oS_8, ← nI_add] at f1
      simp [f_Co_halve_4, ldR h1, h2, alN hA, hlt, alI hA iv, hWv, bitc, pb, asI hA iv]
      exact f1
theorem CTT.halveC (h : CTT σ c s z W) (hN : 10000 ≤ N) : ∃ σ' W', f_Co_halve N (some (c + 15)) σ = some σ' ∧ MC c σ σ' ∧ hp_A σ' (c + 16) = some (0, z / 2, .inl W') ∧ (∀ j, j < z / 2 → W' j = hv (W j)) ∧ hp_I σ' 2 2 (c + 15) = (hp_I σ 2 2 (c + 15) - nI (oS W (4 * z)) / 4) / 2 ∧ hp_I σ' 2 0 (c + 15) = hp_I σ 2 0 (c + 15) := by
  obtain ⟨h1, h2, h3, h4, h5, h6, h7, h8, h9⟩ := id h
  have hz := h8.le
  exact halveC_loop (W := W) h1 h2 h8 (z / 2) 0 (by omega) N σ W (by omega) MC.rf h6 (fun j _ => by rw [if_neg (by omega)]) rfl rfl
/-- the reference's counts, halved below the place t -/
def hR (s s1 : RS) (z : Nat) (W : Nat → Int32) (t : Nat) : Prop := RC s s1 ∧ gi s1 29 = gi s 29 ∧ ∀ i j, i < 4 → j < z → ga s1 30 (8192 * i + j) = nI (if i * z + j < t then cF W (i * z + j) / 2 else cF W (i * z + j))
theorem halveR_row (hb : hp_C b m = some 11) (h4 : gi s 4 = nI z) (hz : zok z) {rec86 : Option Nat → Int32 → Int32 → Hp → Option Hp} {row : Nat} (hr : row < 4) : ∀ (d j : Nat), j + d = z → ∀ (i : Nat) (s1 : RS), d < i → hR s s1 z W (row * z + j) → ∃ s', f_M_count1_95 N rec86 i (some m) (nI (oS W (row * z + j))) (nI row) (nI j) (rh b m s1) = rec86 (some m) (nI (oS W ((row + 1) * z))) (nI (row + 1)) (rh b m s') ∧ hR s s' z W ((row + 1) * z) := by
  have hzz := hz.le
  intro d
  induction d with
  | zero =>
    intro j hd i s1 hi h
    cases i with
    | zero => omega
    | succ i =>
      have hj : j = z := by omega
      subst hj
      have hle : nI j ≤ nI j := Int32.le_refl _
      have e : row * j + j = (row + 1) * j := by rw [Nat.add_mul, Nat.one_mul]
      rw [e] at h ⊢
      refine ⟨s1, ?_, h⟩
      have h4' : gi s1 4 = nI j := by rw [h.1.1 4 (by decide)]; exact h4
      simp [f_M_count1_95, ldIr hb, h4', hle, nI_1]
  | succ d ih =>
    intro j hd i s1 hi h
    cases i with
    | zero => omega
    | succ i =>
      have h4' : gi s1 4 = nI z := by rw [h.1.1 4 (by decide)]; exact h4
      have hlt : ¬ nI z ≤ nI j := nI_ge (by omega) (by omega)
      have i1 : ix_ (nI (8192 * row + j)) 32768 = some (8192 * row + j) := ixN (by omega) (by omega)
      have hc : ga s1 30 (8192 * row + j) = nI (cF W (row * z + j)) := by
        rw [h.2.2 row j hr (by omega), if_neg (by omega)]
      have hcl := cF_lt W (row * z + j)
      have hrem : nI (cF W (row * z + j)) - nI (cF W (row * z + j)) / 2 * 2 = nI (cF W (row * z + j) % 2) := pk_rem (d := 2) (by omega) (by decide) (by decide)
      have hdiv : nI (cF W (row * z + j)) / 2 = nI (cF W (row * z + j) / 2) := pk_div (d := 2) (by omega) (by decide) (by decide)
      rw [hdiv] at hrem
      obtain ⟨s', f1, r1⟩ := ih (j + 1) (by omega) i (ua s1 30 (8192 * row + j) (nI (cF W (row * z + j) / 2))) (by omega) ⟨h.1.trans RC.A, h.2.1, fun x y hx hy => by
        have hxy := h.2.2 x y hx hy
        rw [gaua]
        by_cases hxr : x = row
        · subst hxr
          by_cases hyj : y = j
          · subst hyj
            rw [if_pos ⟨rfl, rfl⟩, if_pos (by omega)]
          · rw [if_neg (by omega), hxy]
            by_cases hlt2 : x * z + y < x * z + j
            · rw [if_pos hlt2, if_pos (by omega)]
            · rw [if_neg hlt2, if_neg (by omega)]
        · rw [if_neg (by omega), hxy]
          rcases (show x < row ∨ row < x by omega) with hlt2 | hlt2
          · have : (x + 1) * z ≤ row * z := Nat.mul_le_mul_right z hlt2
            rw [Nat.add_mul, Nat.one_mul] at this
            rw [if_pos (by omega), if_pos (by omega)]
          · have : (row + 1) * z ≤ x * z := Nat.mul_le_mul_right z hlt2
            rw [Nat.add_mul, Nat.one_mul] at this
            rw [if_neg (by omega), if_neg (by omega)]⟩
      refine ⟨s', ?_, r1⟩
      rw [← nI_1, ← Nat.add_assoc] at f1
      simp only [oS] at f1
      simp [f_M_count1_95, ldIr hb, ldRr hb, h4', hlt, n8192, nI_add, al30, as30, i1, hc, hrem, hdiv]
      exact f1
theorem halveR_loop (hb : hp_C b m = some 11) (h4 : gi s 4 = nI z) (hz : zok z) (hN : 10000 ≤ N) : ∀ (d row : Nat), row + d = 4 → ∀ (i : Nat) (s1 : RS), d < i → hR s s1 z W (row * z) → ∃ s', f_M_count1_86 N i (some m) (nI (oS W (row * z))) (nI row) (rh b m s1) = some (rh b m s') ∧ RC s s' ∧ gi s' 29 = (gi s 29 - nI (oS W (4 * z)) / 4) / 2 ∧ ∀ x y, x < 4 → y < z → ga s' 30 (8192 * x + y) = nI (cF W (x * z + y) / 2) := by
  have hzz := hz.le
  intro d
  induction d with
  | zero =>
    intro row hd i s1 hi h
    cases i with
    | zero => omega
    | succ i =>
      have hrow : row = 4 := by omega
      subst hrow
      refine ⟨ui s1 29 ((gi s 29 - nI (oS W (4 * z)) / 4) / 2), ?_, h.1.trans RC.I, by simp [giui], fun x y hx hy => ?_⟩
      · simp [f_M_count1_86, show nI 4 = 4 from rfl, ldIr hb, stIr hb, h.2.1]
      · have := h.2.2 x y hx hy
        have h2 : x * z ≤ 3 * z := Nat.mul_le_mul_right z (by omega)
        rw [if_pos (by omega)] at this
        exact this
  | succ d ih =>
    intro row hd i s1 hi h
    cases i with
    | zero => omega
    | succ i =>
      have hlt : ¬ (4 : Int32) ≤ nI row := nI_ge (b := 4) (by omega) (by omega)
      obtain ⟨s2, f2, h2⟩ := halveR_row (N := N) (W := W) (rec86 := f_M_count1_86 N i) hb h4 hz (row := row) (by omega) z 0 (by omega) N s1 (by omega) (by rw [Nat.add_zero]; exact h)
      obtain ⟨s', f3, r3⟩ := ih (row + 1) (by omega) i s2 (by omega) h2
      refine ⟨s', ?_, r3⟩
      rw [Nat.add_zero, nI_0] at f2
      simp [f_M_count1_86, hlt]
      rw [f2, f3]
/-! counting a key -/
theorem add_loop (hb : hp_C b m = some 11) (key : Int32) : ∀ (d row : Nat), row + d = 4 → ∀ (i : Nat) (v : Int32) (σ : Hp) (s : RS) (W : Nat → Int32), CTT σ c s z W → d < i → ∃ i' v' σ' s' W', f_Co_add_4 N i (some (c + 15)) key v (nI row) σ = f_Co_add_4 N (i' + 1) (some (c + 15)) key v' 4 σ' ∧ f_M_count1_4 N i (some m) key v (nI row) (rh b m s) = f_M_count1_4 N (i' + 1) (some m) key v' 4 (rh b m s') ∧ CTT σ' c s' z W' ∧ MC c σ σ' ∧ RC s s' := by
  intro d
  induction d with
  | zero =>
    intro row hd i v σ s W h hi
    have : row = 4 := by omega
    subst this
    cases i with
    | zero => omega
    | succ i => exact ⟨i, v, σ, s, W, rfl, rfl, h, MC.rf, RC.rf⟩
  | succ d ih =>
    intro row hd i v σ s W h hi
    cases i with
    | zero => omega
    | succ i =>
      obtain ⟨j, hj, he, hP, hQ, i1, i2⟩ := h.at (row := row) (by omega) key
      have hp1 := h.placeC (row := row) (by omega) key
      have hp2 := h.placeR (b := b) (m := m) hb (row := row) (by omega) key
      rw [he, pk_mul, nI_add] at hp1
      rw [he, n8192, nI_add] at hp2
      have hlt : ¬ (4 : Int32) ≤ nI row := nI_ge (b := 4) (by omega) (by omega)
      obtain ⟨h1, h2, h3, h4, h5, h6, h7, h8, h9⟩ := id h
      have hc := h7 row j (by omega) hj
      have hzz := h8.le
      have hcl := cF_lt W (row * z + j)
      have hn : iushr_ (W ((row * z + j) / 8)) (nI ((row * z + j) % 8 * 4)) &&& 15 = nI (cF W (row * z + j)) := nib_get _ (Nat.mod_lt _ (by decide))
      by_cases h15 : cF W (row * z + j) = 15
      · obtain ⟨i', v', σ', s', W', f1, f2, r⟩ := ih (row + 1) (by omega) i v σ s W h (by omega)
        rw [← nI_1] at f1 f2
        rw [h15, show nI 15 = 15 from rfl] at hn hc
        refine ⟨i', v', σ', s', W', ?_, ?_, r⟩
        · rw [← f1]
          simp [f_Co_add_4, f_Co_add_64, hlt, isO h1, hp1, pb, ldR h1, h2, iushr3 hP, and7 hP, n4, alI h6 i2, hn]
        · rw [← f2]
          simp [f_M_count1_4, f_M_count1_45, hlt, isOr hb, ldRr hb, hp2, pb, al30, i1, hc]
      · have hnle : ¬ (15 : Int32) ≤ nI (cF W (row * z + j)) := nI_ge (b := 15) (by omega) (by omega)
        have hne : ¬ nI (cF W (row * z + j)) = 15 := fun z => h15 ((nI_eq (b := 15) (by omega) (by decide)).mp z)
        have hq : (row * z + j) % 8 < 8 := Nat.mod_lt _ (by decide)
        have hW' : ∀ P, cF (va_up W ((row * z + j) / 8) (W ((row * z + j) / 8) + (1 <<< (nI ((row * z + j) % 8 * 4) &&& 31)))) P = if P = row * z + j then cF W (row * z + j) + 1 else cF W P := by
          intro P
          unfold cF va_up
          by_cases hd : P / 8 = (row * z + j) / 8
          · rw [if_pos hd, nib_add _ hq (Nat.mod_lt _ (by decide)) (by unfold cF at hcl h15; omega)]
            by_cases hP8 : P % 8 = (row * z + j) % 8
            · rw [if_pos hP8, if_pos (by omega)]
            · rw [if_neg hP8, if_neg (by intro z; rw [z] at hP8; exact hP8 rfl), hd]
          · rw [if_neg hd, if_neg (by intro z; rw [z] at hd; exact hd rfl)]
        have hCT : CTT (up_A σ (c + 16) (0, z / 2, .inl (va_up W ((row * z + j) / 8) (W ((row * z + j) / 8) + (1 <<< (nI ((row * z + j) % 8 * 4) &&& 31)))))) c (ua s 30 (8192 * row + j) (nI (cF W (row * z + j)) + 1)) z (va_up W ((row * z + j) / 8) (W ((row * z + j) / 8) + (1 <<< (nI ((row * z + j) % 8 * 4) &&& 31)))) := by
          refine ⟨h1, h2, h3, h4, h5, by rw [hA_A, if_pos rfl], fun x y hx hy => ?_, h8, fun x hx => by rw [gaua, if_neg (fun z => by cases z.1)]; exact h9 x hx⟩
          rw [gaua, hW']
          by_cases hxr : x = row
          · subst hxr
            by_cases hyj : y = j
            · subst hyj; rw [if_pos ⟨rfl, rfl⟩, if_pos rfl, nI_1]
            · rw [if_neg (by omega), if_neg (by omega)]; exact h7 x y hx hy
          · have : ¬ x * z + y = row * z + j := by
              rcases (show x < row ∨ row < x by omega) with hlt2 | hlt2
              · have : (x + 1) * z ≤ row * z := Nat.mul_le_mul_right z hlt2
                rw [Nat.add_mul, Nat.one_mul] at this
                omega
              · have : (row + 1) * z ≤ x * z := Nat.mul_le_mul_right z hlt2
                rw [Nat.add_mul, Nat.one_mul] at this
                omega
            rw [if_neg (by omega), if_neg this]; exact h7 x y hx hy
        obtain ⟨i', v', σ', s', W', f1, f2, r1, r2, r3⟩ := ih (row + 1) (by omega) i 1 _ _ _ hCT (by omega)
        rw [← nI_1] at f1 f2
        refine ⟨i', v', σ', s', W', ?_, ?_, r1, MC.A.trans r2, RC.A.trans r3⟩
        · rw [← f1]
          simp [f_Co_add_4, f_Co_add_64, hlt, isO h1, hp1, pb, ldR h1, h2, iushr3 hP, and7 hP, n4, alI h6 i2, hn, hnle, asI h6 i2]
        · rw [← f2]
          simp [f_M_count1_4, f_M_count1_45, hlt, isOr hb, ldRr hb, hp2, pb, al30, as30, i1, hc, hne]
theorem CTT.add (hb : hp_C b m = some 11) (h : CTT σ c s z W) (hN : 10000 ≤ N) (key : Int32) : ∃ σ' s' W', f_Co_add N (some (c + 15)) key σ = some σ' ∧ f_M_count1 N (some m) key (rh b m s) = some (rh b m s') ∧ CTT σ' c s' z W' ∧ MC c σ σ' ∧ RC s s' := by
  obtain ⟨i', v', σ1, s1, W1, f1, f2, r1, r2, r3⟩ := add_loop (N := N) hb key 4 0 rfl N 0 σ s W h (by omega)
  unfold f_Co_add f_M_count1
  rw [nI_0] at f1 f2
  rw [f1, f2]
  obtain ⟨h1, h2, h3, h4, h5, h6, h7, h8, h9⟩ := id r1
  have hzz := h8.le
  by_cases hv : v' = 0
  · subst hv
    exact ⟨σ1, s1, W1, by simp [f_Co_add_4], by simp [f_M_count1_4], r1, r2, r3⟩
  · have hCT : CTT (up_I σ1 2 2 (c + 15) (gi s1 29 + 1)) c (ui s1 29 (gi s1 29 + 1)) z W1 := by
      refine ⟨h1, h2, ?_, ?_, ?_, h6, h7, h8, h9⟩
      · rw [hI_I, if_neg (by simp)]; exact h3
      · rw [giui, if_neg (by decide)]; exact h4
      · rw [hI_I, if_pos (by simp), giui, if_pos rfl]
    by_cases hlt : gi s1 29 + 1 < 10 * nI z
    · refine ⟨_, _, W1, ?_, ?_, hCT, r2.trans MC.I, r3.trans RC.I⟩
      · simp [f_Co_add_4, hv, ldI, stI, h1, h5, h3, hI_I, hC_I, hlt]
      · have : ¬ 10 * nI z ≤ gi s1 29 + 1 := Int32.not_le.mpr hlt
        simp [f_M_count1_4, hv, ldIr hb, stIr hb, giui, h4, this]
    · have hge : 10 * nI z ≤ gi s1 29 + 1 := Int32.not_lt.mp hlt
      obtain ⟨g1, g2, g3, g4, g5, g6, g7, g8, g9⟩ := id hCT
      obtain ⟨σ2, W2, f3, q1, q2, q3, q4, q5⟩ := hCT.halveC (N := N) hN
      obtain ⟨s2, f4, p1, p2, p3⟩ := halveR_loop (N := N) (W := W1) (b := b) (m := m) (s := ui s1 29 (gi s1 29 + 1)) hb g4 h8 hN 4 0 rfl N (ui s1 29 (gi s1 29 + 1)) (by omega) ⟨RC.rf, rfl, fun x y hx hy => by rw [if_neg (by omega)]; exact g7 x y hx hy⟩
      refine ⟨σ2, s2, W2, ?_, ?_, ⟨?_, ?_, ?_, ?_, ?_, q2, fun x y hx hy => ?_, h8, fun x hx => ?_⟩, (r2.trans MC.I).trans q1, (r3.trans RC.I).trans p1⟩
      · have f3' := f3
        simp [f_Co_add_4, hv, ldI, stI, isO, h1, h5, h3, hI_I, hC_I, hlt]
        exact f3'
      · rw [Nat.zero_mul, nI_0] at f4
        simp only [oS, nI_0] at f4
        simp [f_M_count1_4, hv, ldIr hb, stIr hb, giui, h4, hge, f4]
      · rw [q1.2.1]; exact g1
      · rw [q1.2.2.2.2.2]; exact g2
      · rw [q5]; exact g3
      · rw [p1.1 4 (by decide)]; exact g4
      · rw [q4, p2, g5]
      · rw [p3 x y hx hy]
        have h2 : x * z ≤ 3 * z := Nat.mul_le_mul_right z (by omega)
        unfold cF
        rw [q3 _ (by omega), nib_hv _ (Nat.mod_lt _ (by decide))]
      · rw [p1.2.1 31 (by decide)]; exact g9 x hx
end CTs
