/-! THE REFERENCE's CONSTRUCTOR -/
def fp (p : Nat) : Nat := match p with
  | 0 => 6 | 1 => 7 | 2 => 8 | 3 => 9 | 4 => 11 | 5 => 12 | 6 => 13 | 7 => 14 | 8 => 15 | 9 => 16 | 10 => 17 | 11 => 18 | 12 => 19 | 13 => 20 | 14 => 21 | 15 => 23 | 16 => 24 | 17 => 25 | 18 => 26 | 19 => 30 | 20 => 31 | 21 => 46 | 22 => 47 | 23 => 48 | _ => 0
theorem fp_rpos {k : Nat} (h : rpos k < 24) : fp (rpos k) = k := by
  revert h
  unfold rpos
  split <;> intro h <;> first | rfl | omega
theorem rpos_le (k : Nat) : rpos k ≤ 24 := by
  unfold rpos
  split <;> omega
def z0 (g : Nat → Int32) : RS := (g, fun _ => 0, fun _ _ => 0, fun _ _ => 0)
/-- the reference's object with its first p arrays -/
def IV (m : Nat) (g : Nat → Int32) (p : Nat) (σ : Hp) : Prop := hp_N σ = m + 1 + p ∧ hp_C σ m = some 11 ∧ (∀ k, hp_I σ 11 k m = g k) ∧ (∀ k, hp_L σ 11 k m = 0) ∧ (∀ k, hp_R σ 11 k m = if rpos k < p then some (ra m k) else none) ∧ ∀ q, q < p → hp_A σ (m + 1 + q) = rcell (z0 g) q
section IV
variable {m p : Nat} {g : Nat → Int32} {σ : Hp}
theorem z0_cell {g' : Nat → Int32} {q : Nat} : rcell (z0 g') q = rcell (z0 g) q := by
  unfold rcell
  split <;> rfl
theorem IV.new {β : Hp} (h : hp_N β = m) : IV m (fun _ => 0) 0 (nw_O β 11) := by
  subst h
  refine ⟨rfl, ?_, fun k => ?_, fun k => ?_, fun k => ?_, fun q hq => absurd hq (by omega)⟩
  · show (if hp_N β = hp_N β then some 11 else _) = _
    rw [if_pos rfl]
  · show (if hp_N β = hp_N β then 0 else _) = _
    rw [if_pos rfl]
  · show (if hp_N β = hp_N β then 0 else _) = _
    rw [if_pos rfl]
  · show (if hp_N β = hp_N β then none else _) = _
    rw [if_pos rfl, if_neg (by omega)]
theorem IV.st {P : Option Hp → Prop} (h : IV m g p σ) {k : Nat} {x : Nat × vp_A} {F : Hp → Option Hp} (hk : fp p = k) (hr : rpos k = p) (hp : p < 24) (hx : rcell (z0 g) p = some x) (hF : ∀ σ', IV m g (p + 1) σ' → P (F σ')) : P (Option.bind (st_R (nw_A σ x) (some m) 11 k (some (hp_N σ))) F) := by
  obtain ⟨h1, h2, h3, h4, h5, h6⟩ := h
  rw [stR (σ := nw_A σ x) h2, Option.bind_some]
  refine hF _ ⟨?_, h2, h3, h4, fun j => ?_, fun q hq => ?_⟩
  · show hp_N σ + 1 = _
    omega
  · show (if 11 = 11 ∧ j = k ∧ m = m then some (hp_N σ) else hp_R σ 11 j m) = _
    by_cases hj : j = k
    · subst hj
      rw [if_pos ⟨rfl, rfl, rfl⟩, if_pos (by omega), h1]; unfold ra; rw [hr]
    · rw [if_neg (fun z => hj z.2.1), h5]
      by_cases hq : rpos j < p
      · rw [if_pos hq, if_pos (by omega)]
      · have : ¬ rpos j = p := fun z => hj (by rw [← fp_rpos (by omega : rpos j < 24), z, hk])
        rw [if_neg hq, if_neg (by omega)]
  · show (if m + 1 + q = hp_N σ then some x else hp_A σ (m + 1 + q)) = _
    by_cases hqp : q = p
    · subst hqp; rw [if_pos (by omega), hx]
    · rw [if_neg (by omega), h6 q (by omega)]
theorem IV.si {P : Option Hp → Prop} (h : IV m g p σ) {k : Nat} {x : Int32} {F : Hp → Option Hp} (hF : ∀ σ', IV m (fun j => if j = k then x else g j) p σ' → P (F σ')) : P (Option.bind (st_I σ (some m) 11 k x) F) := by
  obtain ⟨h1, h2, h3, h4, h5, h6⟩ := h
  rw [stI h2, Option.bind_some]
  refine hF _ ⟨h1, h2, fun j => ?_, h4, h5, fun q hq => (h6 q hq).trans z0_cell⟩
  rw [hI_I]
  show _ = if j = k then x else g j
  by_cases hj : j = k
  · rw [if_pos ⟨rfl, hj, rfl⟩, if_pos hj]
  · rw [if_neg (fun z => hj z.2.1), if_neg hj, h3]
theorem IV.sz {P : Option Hp → Prop} (h : IV m g p σ) {k : Nat} {F : Hp → Option Hp} (hF : ∀ σ', IV m (fun j => if j = k then 1 else g j) p σ' → P (F σ')) : P (Option.bind (st_Z σ (some m) 11 k 1) F) := by
  rw [show st_Z σ (some m) 11 k 1 = st_I σ (some m) 11 k 1 by rw [stZ1 h.2.1, stI h.2.1]]
  exact h.si hF
theorem IV.rh (h : IV m g 24 σ) : σ = rh σ m (z0 g) := by
  obtain ⟨h1, h2, h3, h4, h5, h6⟩ := h
  refine Prod.ext rfl (Prod.ext ?_ (Prod.ext ?_ (Prod.ext ?_ ?_)))
  · funext c k a
    show hp_I σ c k a = if c = 11 ∧ a = m then gi (z0 g) k else hp_I σ c k a
    by_cases hc : c = 11 ∧ a = m
    · rw [if_pos hc, hc.1, hc.2, h3]; rfl
    · rw [if_neg hc]
  · funext c k a
    show hp_L σ c k a = if c = 11 ∧ a = m then gl (z0 g) k else hp_L σ c k a
    by_cases hc : c = 11 ∧ a = m
    · rw [if_pos hc, hc.1, hc.2, h4]; rfl
    · rw [if_neg hc]
  · funext c k a
    show hp_R σ c k a = if c = 11 ∧ a = m then rr m k else hp_R σ c k a
    by_cases hc : c = 11 ∧ a = m
    · rw [if_pos hc, hc.1, hc.2, h5]
      unfold rr
      have := rpos_le k
      by_cases hk : rpos k = 24
      · rw [if_pos hk, if_neg (by omega)]
      · rw [if_neg hk, if_pos (by omega)]
    · rw [if_neg hc]
  · funext a
    show hp_A σ a = if m < a ∧ a < m + 25 then rcell (z0 g) (a - (m + 1)) else hp_A σ a
    by_cases ha : m < a ∧ a < m + 25
    · have := h6 (a - (m + 1)) (by omega)
      rw [show m + 1 + (a - (m + 1)) = a by omega] at this
      rw [if_pos ha, this]
    · rw [if_neg ha]
end IV
def gM : Nat → Int32 := fun j => if j = 36 then 1 else if j = 35 then 1 else 0
/-- what the reference's constructor leaves -/
def RP (m : Nat) (mx z : Nat) (v2 v3 : Int32) (s : RS) : Prop := (∀ k, gi s k = if k = 1 then nI mx else if k = 2 then posI v2 else if k = 3 then posI v3 else if k = 4 then nI z else if k = 32 then imax_ 1 (nI mx / 100) else if k = 33 then imax_ 1 (nI mx / 16) else gM k) ∧ (∀ k, gl s k = 0) ∧ (∀ k, k < 1000 → ga s 6 k = -1) ∧ (∀ i, i < 4 → ga s 31 i = oddn i) ∧ ∀ k, k ≠ 6 → k ≠ 31 → ∀ j, ga s k j = 0
section MI
variable {b : Hp} {m n N : Nat} {s : RS}
theorem init_loop (hb : hp_C b m = some 11) : ∀ (i j : Nat) (s : RS), j ≤ 1000 → 1000 - j < i → (∀ k, k < j → ga s 6 k = -1) → ∃ s', f_M_init_340 N i (some m) (nI j) (rh b m s) = some (rh b m s') ∧ (∀ k, gi s' k = gi s k) ∧ (∀ k, gl s' k = gl s k) ∧ (∀ k, k < 1000 → ga s' 6 k = -1) ∧ (∀ i, i < 4 → ga s' 31 i = oddn i) ∧ ∀ k, k ≠ 6 → k ≠ 31 → ∀ j, ga s' k j = ga s k j := by
  intro i
  induction i with
  | zero => intro j s _ hi; omega
  | succ i ih =>
    intro j s hj hi h6
    by_cases hjn : j = 1000
    · subst hjn
      have h0 : (1000 : Int32) ≤ nI 1000 := by decide
      have i0 : ix_ 0 4 = some 0 := by decide
      have i1 : ix_ 1 4 = some 1 := by decide
      have i2 : ix_ 2 4 = some 2 := by decide
      have i3 : ix_ 3 4 = some 3 := by decide
      refine ⟨ua (ua (ua (ua s 31 0 (-1640531527)) 31 1 (-2048144777)) 31 2 (-1028477379)) 31 3 668265263, ?_, fun k => rfl, fun k => rfl, fun k hk => ?_, fun q hq => ?_, fun k hk hk' j => ?_⟩
      · simp [f_M_init_340, h0, ldRr hb, as31, i0, i1, i2, i3]
      · simp [gaua]; exact h6 k hk
      · rcases (show q = 0 ∨ q = 1 ∨ q = 2 ∨ q = 3 by omega) with rfl | rfl | rfl | rfl <;> simp [gaua, oddn]
      · simp [gaua, hk']
    · have hlt : ¬ (1000 : Int32) ≤ nI j := nI_ge (b := 1000) (by omega) (by decide)
      have hij : ix_ (nI j) 1000 = some j := ixN (by omega) (by omega)
      obtain ⟨s', e, g1, g2, g3, g4, g5⟩ := ih (j + 1) (ua s 6 j (-1)) (by omega) (by omega) (fun k hk => by
        rw [gaua]
        by_cases hkj : k = j
        · rw [if_pos ⟨rfl, hkj⟩]
        · rw [if_neg (fun z => hkj z.2), h6 k (by omega)])
      rw [← nI_1] at e
      refine ⟨s', ?_, g1, g2, g3, g4, fun k hk hk' q => ?_⟩
      · simp [f_M_init_340, hlt, ldRr hb, as6, hij, e]
      · rw [g5 k hk hk', gaua, if_neg (fun z => hk z.1)]
theorem step_run (hb : hp_C b m = some 11) : f_M_firstStep (some m) (rh b m s) = some (imax_ 1 (gi s 1 / 16), rh b m s) := by
  unfold imax_
  by_cases h : 1 ≤ gi s 1 / 16
  · by_cases h2 : 1 < gi s 1 / 16
    · simp [f_M_firstStep, ldIr hb, h, h2]
    · have : gi s 1 / 16 = 1 := by
        rw [Int32.le_iff_toInt_le] at h
        rw [Int32.lt_iff_toInt_lt] at h2
        exact Int32.toInt_inj.mp (by omega)
      simp [f_M_firstStep, ldIr hb, this]
  · have h2 : ¬ 1 < gi s 1 / 16 := fun z => h (Int32.le_of_lt z)
    simp [f_M_firstStep, ldIr hb, h, h2]
/-- the size of a row of counts -/
def szz (mx : Nat) : Nat → Nat → Nat
  | 0, y => y
  | d + 1, y => if mx ≤ y then y else szz mx d (y * 2)
theorem szz_ok {mx : Nat} : zok (szz mx 10 8) := by
  simp only [szz]
  unfold zok
  repeat' split
  all_goals decide
theorem nI_m2 (y : Nat) : nI y * 2 = nI (y * 2) := (Int32.ofNat_mul y 2).symm
theorem im1 {x : Int32} : (1 ≤ x → imax_ 1 x = x) ∧ (¬ 1 ≤ x → imax_ 1 x = 1) := by
  unfold imax_
  refine ⟨fun h => ?_, fun h => ?_⟩
  · by_cases h2 : 1 < x
    · rw [if_pos h2]
    · rw [if_neg h2]
      rw [Int32.le_iff_toInt_le] at h
      rw [Int32.lt_iff_toInt_lt] at h2
      exact Int32.toInt_inj.mp (by omega)
  · rw [if_neg (fun z => h (Int32.le_of_lt z))]
theorem szM (hb : hp_C b m = some 11) {mx : Nat} (h5 : mx ≤ 5000) (h1 : gi s 1 = nI mx) : ∀ (d i y : Nat), d < i → y ≤ 8192 → mx ≤ y * 2 ^ d → y * 2 ^ d ≤ 8192 → f_M_init_279 N i (some m) (nI y) (rh b m s) = f_M_init_326 N (some m) (imax_ 1 (nI mx / 100)) (some m) (rh b m (ui s 4 (nI (szz mx d y)))) := by
  have base : ∀ i y, y ≤ 8192 → mx ≤ y → f_M_init_279 N (i + 1) (some m) (nI y) (rh b m s) = f_M_init_326 N (some m) (imax_ 1 (nI mx / 100)) (some m) (rh b m (ui s 4 (nI y))) := by
    intro i y hy hxy
    have hle : nI mx ≤ nI y := nI_le hxy (by omega)
    have g1 : gi (ui s 4 (nI y)) 1 = nI mx := h1
    by_cases hw : 1 ≤ nI mx / 100
    · rw [im1.1 hw]
      simp only [f_M_init_279, ldIr hb, stIr hb, Option.bind_some, h1, g1, if_pos hle, if_pos hw]
    · rw [im1.2 hw]
      simp only [f_M_init_279, ldIr hb, stIr hb, Option.bind_some, h1, g1, if_pos hle, if_neg hw]
  intro d
  induction d with
  | zero =>
    intro i y hi hy hx hz
    obtain ⟨i, rfl⟩ : ∃ i', i = i' + 1 := ⟨i - 1, by omega⟩
    exact base i y hy (by simpa using hx)
  | succ d ih =>
    intro i y hi hy hx hz
    obtain ⟨i, rfl⟩ : ∃ i', i = i' + 1 := ⟨i - 1, by omega⟩
    have hp : y * 2 ^ (d + 1) = y * 2 * 2 ^ d := by rw [Nat.pow_succ, Nat.mul_comm (2 ^ d) 2, Nat.mul_assoc]
    have hd : 0 < 2 ^ d := Nat.pow_pos (by decide)
    by_cases hxy : mx ≤ y
    · rw [base i y hy hxy]
      simp only [szz, if_pos hxy]
    · have hle : ¬ nI mx ≤ nI y := nI_ge (by omega) (by omega)
      have hy2 : y * 2 ≤ 8192 := by
        rw [hp] at hz
        exact Nat.le_trans (Nat.le_mul_of_pos_right _ hd) hz
      have := ih i (y * 2) (by omega) hy2 (by rw [← hp]; exact hx) (by rw [← hp]; exact hz)
      simp only [szz, if_neg hxy]
      rw [← this, ← nI_m2]
      simp only [f_M_init_279, ldIr hb, Option.bind_some, h1, if_neg hle]
theorem szC {mx : Nat} (h5 : mx ≤ 5000) {v0 : Option Nat} {σ : Hp} : ∀ (d i y : Nat), d < i → y ≤ 8192 → mx ≤ y * 2 ^ d → y * 2 ^ d ≤ 8192 → f_Co_init_7 N i v0 (nI mx) (nI y) σ = f_Co_init_26 N v0 (nI (szz mx d y)) σ := by
  have base : ∀ i y, y ≤ 8192 → mx ≤ y → f_Co_init_7 N (i + 1) v0 (nI mx) (nI y) σ = f_Co_init_26 N v0 (nI y) σ := by
    intro i y hy hxy
    have hle : nI mx ≤ nI y := nI_le hxy (by omega)
    simp only [f_Co_init_7, if_pos hle]
  intro d
  induction d with
  | zero =>
    intro i y hi hy hx hz
    obtain ⟨i, rfl⟩ : ∃ i', i = i' + 1 := ⟨i - 1, by omega⟩
    exact base i y hy (by simpa using hx)
  | succ d ih =>
    intro i y hi hy hx hz
    obtain ⟨i, rfl⟩ : ∃ i', i = i' + 1 := ⟨i - 1, by omega⟩
    have hp : y * 2 ^ (d + 1) = y * 2 * 2 ^ d := by rw [Nat.pow_succ, Nat.mul_comm (2 ^ d) 2, Nat.mul_assoc]
    have hd : 0 < 2 ^ d := Nat.pow_pos (by decide)
    by_cases hxy : mx ≤ y
    · rw [base i y hy hxy]
      simp only [szz, if_pos hxy]
    · have hle : ¬ nI mx ≤ nI y := nI_ge (by omega) (by omega)
      have h8 : ¬ (8192 : Int32) ≤ nI y := nI_ge (b := 8192) (by omega) (by decide)
      have hy2 : y * 2 ≤ 8192 := by
        rw [hp] at hz
        exact Nat.le_trans (Nat.le_mul_of_pos_right _ hd) hz
      have := ih i (y * 2) (by omega) hy2 (by rw [← hp]; exact hx) (by rw [← hp]; exact hz)
      simp only [szz, if_neg hxy]
      rw [← this, ← nI_m2]
      simp only [f_Co_init_7, if_neg hle, if_neg h8]
theorem mTail (hb : hp_C b m = some 11) (hN : 2000 ≤ N) {mx : Nat} (h5 : mx ≤ 5000) (v2 v3 : Int32) : ∃ s, f_M_init_246 N (some m) v2 v3 (nI mx) (some m) (rh b m (z0 gM)) = some (rh b m s) ∧ RP m mx (szz mx 10 8) v2 v3 s := by
  have e1 : f_M_init_246 N (some m) v2 v3 (nI mx) (some m) (rh b m (z0 gM)) = f_M_init_259 N (some m) v3 (posI v2) (some m) (rh b m (ui (z0 gM) 1 (nI mx))) := by
    unfold posI
    by_cases h : 0 ≤ v2
    · simp only [f_M_init_246, stIr hb, Option.bind_some, if_pos h]
    · simp only [f_M_init_246, stIr hb, Option.bind_some, if_neg h]
  have e2 : f_M_init_259 N (some m) v3 (posI v2) (some m) (rh b m (ui (z0 gM) 1 (nI mx))) = f_M_init_272 N (some m) (posI v3) (some m) (rh b m (ui (ui (z0 gM) 1 (nI mx)) 2 (posI v2))) := by
    have : ∀ w, f_M_init_259 N (some m) v3 w (some m) (rh b m (ui (z0 gM) 1 (nI mx))) = f_M_init_272 N (some m) (posI v3) (some m) (rh b m (ui (ui (z0 gM) 1 (nI mx)) 2 w)) := by
      intro w
      unfold posI
      by_cases h : 0 ≤ v3
      · simp only [f_M_init_259, stIr hb, Option.bind_some, if_pos h]
      · simp only [f_M_init_259, stIr hb, Option.bind_some, if_neg h]
    exact this _
  have e3 := szM (N := N) (s := ui (ui (ui (z0 gM) 1 (nI mx)) 2 (posI v2)) 3 (posI v3)) hb h5 rfl 10 N 8 (by omega) (by omega) (by omega) (by omega)
  obtain ⟨s', e, g1, g2, g3, g4, g5⟩ := init_loop (N := N) hb N 0 (ui (ui (ui (ui (ui (ui (z0 gM) 1 (nI mx)) 2 (posI v2)) 3 (posI v3)) 4 (nI (szz mx 10 8))) 32 (imax_ 1 (nI mx / 100))) 33 (imax_ 1 (nI mx / 16))) (by omega) (by omega) (fun k hk => absurd hk (by omega))
  rw [nI_0] at e
  refine ⟨s', ?_, fun k => ?_, fun k => (g2 k).trans rfl, g3, g4, fun k hk hk' j => (g5 k hk hk' j).trans rfl⟩
  · rw [e1, e2]
    simp only [f_M_init_272, stIr hb, Option.bind_some]
    rw [show (8 : Int32) = nI 8 from rfl, e3]
    simp only [f_M_init_326, stIr hb, Option.bind_some, isOr hb, step_run hb, pb]
    exact e
  · rw [g1]
    simp only [giui]
    by_cases h1 : k = 1
    · subst h1; simp
    by_cases h2 : k = 2
    · subst h2; simp
    by_cases h3 : k = 3
    · subst h3; simp
    by_cases h4 : k = 4
    · subst h4; simp
    by_cases h32 : k = 32
    · subst h32; simp
    by_cases h33 : k = 33
    · subst h33; simp
    rw [if_neg h33, if_neg h32, if_neg h4, if_neg h3, if_neg h2, if_neg h1, if_neg h1, if_neg h2, if_neg h3, if_neg h4, if_neg h32, if_neg h33]
    rfl
/-- the first number, kept between 1 and 5000 -/
theorem cl_ok (v : Int32) : ∃ mx, 1 ≤ mx ∧ mx ≤ 5000 ∧ imax_ 1 (imin_ v 5000) = nI mx ∧ ∀ (F : Int32 → Option Hp), (if 1 ≤ v then (if v ≤ 5000 then F v else F 5000) else F 1) = F (nI mx) := by
  by_cases h1 : 1 ≤ v
  · by_cases h5 : v ≤ 5000
    · obtain ⟨mx, hm, rfl⟩ := nI_of2 (M := 5000) (n := 5000) (by decide) (x := v) (fun z => by
        rw [Int32.le_iff_toInt_le] at h1
        rw [Int32.lt_iff_toInt_lt] at z
        have e0 : (0 : Int32).toInt = 0 := by decide
        have e1 : (1 : Int32).toInt = 1 := by decide
        omega) h5
      have hm1 : 1 ≤ mx := by
        have := (nI_leI (a := 1) (b := mx) (by omega) (by omega)).mp h1
        exact this
      refine ⟨mx, hm1, hm, ?_, fun F => by rw [if_pos h1, if_pos h5]⟩
      have hmin : imin_ (nI mx) 5000 = nI mx := by
        unfold imin_
        rw [if_neg (Int32.not_lt.mpr h5)]
      rw [hmin, im1.1 h1]
    · refine ⟨5000, by omega, by omega, ?_, fun F => by rw [if_pos h1, if_neg h5]; rfl⟩
      unfold imin_
      rw [if_pos (Int32.not_le.mp h5)]; decide
  · refine ⟨1, by omega, by omega, ?_, fun F => by rw [if_neg h1]; rfl⟩
    have hv : ¬ (5000 : Int32) < v := fun z => h1 (by
      rw [Int32.lt_iff_toInt_lt] at z
      rw [Int32.le_iff_toInt_le]
      have e0 : (5000 : Int32).toInt = 5000 := by decide
      have e1 : (1 : Int32).toInt = 1 := by decide
      omega)
    unfold imin_
    rw [if_neg hv, im1.2 h1]; rfl
theorem mInit {β : Hp} (hβ : hp_N β = m) (hN : 2000 ≤ N) (v1 v2 v3 : Int32) {mx : Nat} (h5 : mx ≤ 5000) (hcl : ∀ (F : Int32 → Option Hp), (if 1 ≤ v1 then (if v1 ≤ 5000 then F v1 else F 5000) else F 1) = F (nI mx)) : ∃ b s, f_M_init N (some m) v1 v2 v3 (nw_O β 11) = some (rh b m s) ∧ hp_C b m = some 11 ∧ hp_N b = m + 25 ∧ RP m mx (szz mx 10 8) v2 v3 s := by
  have h := IV.new hβ
  suffices hP : (fun o : Option Hp => ∃ b s, o = some (rh b m s) ∧ hp_C b m = some 11 ∧ hp_N b = m + 25 ∧ RP m mx (szz mx 10 8) v2 v3 s) (f_M_init N (some m) v1 v2 v3 (nw_O β 11)) from hP
  generalize hP : (fun o : Option Hp => ∃ b s, o = some (rh b m s) ∧ hp_C b m = some 11 ∧ hp_N b = m + 25 ∧ RP m mx (szz mx 10 8) v2 v3 s) = P
  unfold f_M_init
  rw [Option.bind_some]
  refine h.st (k := 6) rfl rfl (by decide) rfl fun _ h => ?_
  refine h.st (k := 7) rfl rfl (by decide) rfl fun _ h => ?_
  refine h.st (k := 8) rfl rfl (by decide) rfl fun _ h => ?_
  refine h.st (k := 9) rfl rfl (by decide) rfl fun _ h => ?_
  refine h.st (k := 11) rfl rfl (by decide) rfl fun _ h => ?_
  refine h.st (k := 12) rfl rfl (by decide) rfl fun _ h => ?_
  refine h.st (k := 13) rfl rfl (by decide) rfl fun _ h => ?_
  refine h.st (k := 14) rfl rfl (by decide) rfl fun _ h => ?_
  refine h.st (k := 15) rfl rfl (by decide) rfl fun _ h => ?_
  refine h.st (k := 16) rfl rfl (by decide) rfl fun _ h => ?_
  refine h.st (k := 17) rfl rfl (by decide) rfl fun _ h => ?_
  refine h.st (k := 18) rfl rfl (by decide) rfl fun _ h => ?_
  refine h.st (k := 19) rfl rfl (by decide) rfl fun _ h => ?_
  refine h.st (k := 20) rfl rfl (by decide) rfl fun _ h => ?_
  refine h.st (k := 21) rfl rfl (by decide) rfl fun _ h => ?_
  refine h.st (k := 23) rfl rfl (by decide) rfl fun _ h => ?_
  refine h.st (k := 24) rfl rfl (by decide) rfl fun _ h => ?_
  refine h.st (k := 25) rfl rfl (by decide) rfl fun _ h => ?_
  refine h.st (k := 26) rfl rfl (by decide) rfl fun _ h => ?_
  refine h.st (k := 30) rfl rfl (by decide) rfl fun _ h => ?_
  refine h.st (k := 31) rfl rfl (by decide) rfl fun _ h => ?_
  refine h.si fun _ h => ?_
  refine h.sz fun _ h => ?_
  refine h.st (k := 46) rfl rfl (by decide) rfl fun _ h => ?_
  refine h.st (k := 47) rfl rfl (by decide) rfl fun _ h => ?_
  refine h.st (k := 48) rfl rfl (by decide) rfl fun _ h => ?_
  rw [hcl (fun w => f_M_init_246 N (some m) v2 v3 w (some m) _)]
  rw [← hP]
  rename_i σ
  obtain ⟨s, e, hs⟩ := mTail (b := σ) (m := m) (N := N) h.2.1 hN h5 v2 v3
  refine ⟨σ, s, ?_, h.2.1, h.1, hs⟩
  have h' := h.rh
  rw [← e]
  exact congrArg _ h'
end MI
