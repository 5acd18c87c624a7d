/-! THE CLASS's CONSTRUCTOR: worlds that lie c further on -/
def rel (c : Nat) (T σ : Hp) : Prop := hp_N σ = c + hp_N T ∧ (∀ q, hp_C σ (c + q) = hp_C T q) ∧ (∀ ci k q, hp_I σ ci k (c + q) = hp_I T ci k q) ∧ (∀ ci k q, hp_L σ ci k (c + q) = hp_L T ci k q) ∧ (∀ ci k q, hp_R σ ci k (c + q) = (hp_R T ci k q).map (c + ·)) ∧ ∀ q, hp_A σ (c + q) = hp_A T q
section RL2
variable {c : Nat} {T σ : Hp}
theorem rel.em : rel c (em 0) (em c) := ⟨rfl, fun _ => rfl, fun _ _ _ => rfl, fun _ _ _ => rfl, fun _ _ _ => rfl, fun _ => rfl⟩
theorem rel.nO (h : rel c T σ) (x : Nat) : rel c (nw_O T x) (nw_O σ x) := by
  obtain ⟨h1, h2, h3, h4, h5, h6⟩ := h
  have hq : ∀ q, (c + q = hp_N σ) ↔ (q = hp_N T) := fun q => by rw [h1]; omega
  refine ⟨?_, fun q => ?_, fun ci k q => ?_, fun ci k q => ?_, fun ci k q => ?_, h6⟩
  · show hp_N σ + 1 = c + (hp_N T + 1)
    omega
  · show (if c + q = hp_N σ then some x else hp_C σ (c + q)) = if q = hp_N T then some x else hp_C T q
    rw [h2]; simp only [hq]
  · show (if c + q = hp_N σ then 0 else hp_I σ ci k (c + q)) = if q = hp_N T then 0 else hp_I T ci k q
    rw [h3]; simp only [hq]
  · show (if c + q = hp_N σ then 0 else hp_L σ ci k (c + q)) = if q = hp_N T then 0 else hp_L T ci k q
    rw [h4]; simp only [hq]
  · show (if c + q = hp_N σ then none else hp_R σ ci k (c + q)) = (if q = hp_N T then none else hp_R T ci k q).map (c + ·)
    rw [h5]; simp only [hq]
    by_cases hh : q = hp_N T
    · rw [if_pos hh, if_pos hh]; rfl
    · rw [if_neg hh, if_neg hh]
theorem rel.nA (h : rel c T σ) (x : Nat × vp_A) : rel c (nw_A T x) (nw_A σ x) := by
  obtain ⟨h1, h2, h3, h4, h5, h6⟩ := h
  have hq : ∀ q, (c + q = hp_N σ) ↔ (q = hp_N T) := fun q => by rw [h1]; omega
  refine ⟨?_, h2, h3, h4, h5, fun q => ?_⟩
  · show hp_N σ + 1 = c + (hp_N T + 1)
    omega
  · show (if c + q = hp_N σ then some x else hp_A σ (c + q)) = if q = hp_N T then some x else hp_A T q
    rw [h6]; simp only [hq]
theorem rel.uI (h : rel c T σ) {ci k a : Nat} {x : Int32} : rel c (up_I T ci k a x) (up_I σ ci k (c + a) x) := by
  obtain ⟨h1, h2, h3, h4, h5, h6⟩ := h
  refine ⟨h1, h2, fun d j q => ?_, h4, h5, h6⟩
  rw [hI_I, hI_I, h3]
  have hq : (c + q = c + a) ↔ (q = a) := by omega
  simp only [hq]
theorem rel.uR (h : rel c T σ) {ci k a v : Nat} : rel c (up_R T ci k a (some v)) (up_R σ ci k (c + a) (some (c + v))) := by
  obtain ⟨h1, h2, h3, h4, h5, h6⟩ := h
  refine ⟨h1, h2, h3, h4, fun d j q => ?_, h6⟩
  rw [hR_R, hR_R, h5]
  have hq : (c + q = c + a) ↔ (q = a) := by omega
  simp only [hq]
  by_cases hh : d = ci ∧ j = k ∧ q = a
  · rw [if_pos hh, if_pos hh]; rfl
  · rw [if_neg hh, if_neg hh]
theorem rel.n (h : rel c T σ) (p : Nat) (hp : hp_N T = p) : hp_N σ = c + p := by rw [h.1, hp]
theorem rel.pA {P : Option Hp → Prop} (h : rel c T σ) {a ci k : Nat} (p : Nat) {x : Nat × vp_A} {F : Hp → Option Hp} (hp : hp_N T = p) (hC : hp_C T a = some ci) (hF : ∀ σ', rel c (up_R (nw_A T x) ci k a (some p)) σ' → P (F σ')) : P (Option.bind (st_R (nw_A σ x) (some (c + a)) ci k (some (hp_N σ))) F) := by
  have hc : hp_C (nw_A σ x) (c + a) = some ci := (h.2.1 a).trans hC
  rw [stR hc, Option.bind_some, h.1, hp]
  exact hF _ (h.nA x).uR
theorem rel.pR {P : Option Hp → Prop} (h : rel c T σ) {a ci k v : Nat} {F : Hp → Option Hp} (hC : hp_C T a = some ci) (hF : ∀ σ', rel c (up_R T ci k a (some v)) σ' → P (F σ')) : P (Option.bind (st_R σ (some (c + a)) ci k (some (c + v))) F) := by
  rw [stR ((h.2.1 a).trans hC), Option.bind_some]
  exact hF _ h.uR
theorem rel.pI {P : Option Hp → Prop} (h : rel c T σ) {a ci k : Nat} {x : Int32} {F : Hp → Option Hp} (hC : hp_C T a = some ci) (hF : ∀ σ', rel c (up_I T ci k a x) σ' → P (F σ')) : P (Option.bind (st_I σ (some (c + a)) ci k x) F) := by
  rw [stI ((h.2.1 a).trans hC), Option.bind_some]
  exact hF _ h.uI
theorem rel.pZ {P : Option Hp → Prop} (h : rel c T σ) {a ci k : Nat} {F : Hp → Option Hp} (hC : hp_C T a = some ci) (hF : ∀ σ', rel c (up_I T ci k a 1) σ' → P (F σ')) : P (Option.bind (st_Z σ (some (c + a)) ci k 1) F) := by
  rw [stZ1 ((h.2.1 a).trans hC), Option.bind_some]
  exact hF _ h.uI
theorem rel.pL {P : Option Hp → Prop} (h : rel c T σ) {a ci k : Nat} {x : Int32} {F : Int32 → Option Hp} (hC : hp_C T a = some ci) (hx : hp_I T ci k a = x) (hF : P (F x)) : P (Option.bind (ld_I σ (some (c + a)) ci k) F) := by
  rw [ldI ((h.2.1 a).trans hC), Option.bind_some, h.2.2.1, hx]
  exact hF
end RL2
def TC (T : Hp) : Prop := hp_N T = 22 ∧ hp_C T 0 = some 0 ∧ hp_C T 3 = some 6 ∧ hp_C T 5 = some 6 ∧ hp_C T 7 = some 9 ∧ hp_C T 10 = some 5 ∧ hp_C T 14 = some 4 ∧ hp_C T 15 = some 2 ∧ hp_C T 17 = some 8 ∧ hp_C T 18 = some 7 ∧ hp_C T 19 = some 7 ∧ hp_C T 20 = some 7 ∧ hp_C T 21 = some 1
def TR (T : Hp) : Prop := hp_R T 0 0 0 = some 1 ∧ hp_R T 0 1 0 = some 2 ∧ hp_R T 0 2 0 = some 3 ∧ hp_R T 0 3 0 = some 5 ∧ hp_R T 0 4 0 = some 7 ∧ hp_R T 0 5 0 = some 10 ∧ hp_R T 0 6 0 = some 14 ∧ hp_R T 0 7 0 = some 15 ∧ hp_R T 0 8 0 = some 17 ∧ hp_R T 0 9 0 = some 21 ∧ hp_R T 6 0 3 = some 4 ∧ hp_R T 6 0 5 = some 6 ∧ hp_R T 9 0 7 = some 8 ∧ hp_R T 9 1 7 = some 9 ∧ hp_R T 5 0 10 = some 11 ∧ hp_R T 5 1 10 = some 12 ∧ hp_R T 5 2 10 = some 13 ∧ hp_R T 2 1 15 = some 16 ∧ hp_R T 8 1 17 = some 18 ∧ hp_R T 8 2 17 = some 19 ∧ hp_R T 8 3 17 = some 20
def T7 (T : Hp) (a : Nat) : Prop := hp_R T 7 0 a = none ∧ hp_R T 7 1 a = none ∧ hp_I T 7 2 a = 0 ∧ hp_I T 7 3 a = 0
def TI (T : Hp) (mx z : Nat) (v2 v3 : Int32) : Prop := hp_I T 0 10 0 = 1 ∧ hp_I T 0 11 0 = 0 ∧ hp_I T 0 12 0 = 0 ∧ hp_I T 0 13 0 = 0 ∧ hp_I T 0 14 0 = 0 ∧ hp_I T 4 0 14 = v2 ∧ hp_I T 4 1 14 = v3 ∧ hp_L T 4 2 14 = 0 ∧ hp_I T 8 0 17 = nI mx ∧ hp_I T 8 4 17 = imax_ 1 (nI mx / 100) ∧ hp_I T 6 2 3 = 0 ∧ hp_I T 6 2 5 = 0 ∧ hp_I T 6 1 3 = 0 ∧ hp_I T 6 1 5 = 0 ∧ hp_I T 1 0 21 = 10 * nI mx ∧ hp_I T 1 1 21 = imax_ 1 (nI mx / 16) ∧ hp_I T 1 2 21 = 0 ∧ hp_I T 1 3 21 = 0 ∧ hp_I T 1 4 21 = 0 ∧ hp_I T 1 5 21 = 0 ∧ hp_I T 1 6 21 = 0 ∧ hp_I T 1 7 21 = imax_ 1 (nI mx / 16) ∧ hp_I T 1 8 21 = 1 ∧ hp_I T 5 3 10 = 0 ∧ hp_I T 2 0 15 = nI z ∧ hp_I T 2 2 15 = 0 ∧ hp_I T 9 2 7 = 0
def TA (T : Hp) (z : Nat) : Prop := hp_A T 1 = some (3, 1000, .inr (.inr (.inr (.inr (fun _ => none))))) ∧ hp_A T 2 = some (4, 1000, .inr (.inr (.inr (.inr (fun _ => none))))) ∧ hp_A T 4 = some (3, 16, .inr (.inr (.inr (.inr (fun _ => none))))) ∧ hp_A T 6 = some (3, 16, .inr (.inr (.inr (.inr (fun _ => none))))) ∧ hp_A T 8 = some (3, 8, .inr (.inr (.inr (.inr (fun _ => none))))) ∧ hp_A T 9 = some (0, 8, .inl (fun _ => 0)) ∧ hp_A T 11 = some (0, 500, .inl (fun _ => 0)) ∧ hp_A T 12 = some (0, 500, .inl (fun _ => 0)) ∧ hp_A T 13 = some (0, 500, .inl (fun _ => 0)) ∧ hp_A T 16 = some (0, z / 2, .inl (fun _ => 0))
theorem co_run {N mx : Nat} (hN : 2000 ≤ N) (h5 : mx ≤ 5000) (a : Nat) (σ : Hp) : f_Co_init N (some a) (nI mx) σ = f_Co_init_26 N (some a) (nI (szz mx 10 8)) σ := by
  unfold f_Co_init
  rw [Option.bind_some, show (8 : Int32) = nI 8 from rfl]
  exact szC h5 10 N 8 (by omega) (by omega) (by omega) (by omega)
theorem z_half {z : Nat} (h : zok z) : ¬ (4 * nI z / 8 < 0 ∨ 4096 < (4 * nI z / 8).toNatClampNeg) ∧ (4 * nI z / 8).toNatClampNeg = z / 2 := by
  rcases h with rfl | rfl | rfl | rfl | rfl | rfl | rfl | rfl | rfl | rfl | rfl <;> decide
section RL3
variable {c : Nat} {T σ : Hp} {P : Option Hp → Prop} {F : Hp → Option Hp} {p : Nat}
theorem nO_C {x : Nat} (h : hp_N T = p) : hp_C (nw_O T x) p = some x := by
  subst h
  show (if hp_N T = hp_N T then some x else _) = _
  rw [if_pos rfl]
theorem nO_Cn {x q : Nat} (h : q ≠ hp_N T) : hp_C (nw_O T x) q = hp_C T q := by
  show (if q = hp_N T then some x else hp_C T q) = _
  rw [if_neg h]
theorem nO_N {x : Nat} : hp_N (nw_O T x) = hp_N T + 1 := rfl
def x16 : Nat × vp_A := (3, (16 : Int32).toNatClampNeg, .inr (.inr (.inr (.inr (fun _ => none)))))
def x8 : Nat × vp_A := (3, (8 : Int32).toNatClampNeg, .inr (.inr (.inr (.inr (fun _ => none)))))
def y8 : Nat × vp_A := (0, (8 : Int32).toNatClampNeg, .inl (fun _ => 0))
def y500 : Nat × vp_A := (0, (500 : Int32).toNatClampNeg, .inl (fun _ => 0))
def tNo (T : Hp) (p : Nat) : Hp := up_R (nw_A (nw_O T 6) x16) 6 0 p (some (p + 1))
theorem rel.pNo (h : rel c T σ) (hp : hp_N T = p) (hF : ∀ σ', rel c (tNo T p) σ' → P (F σ')) : P (Option.bind (f_No_init (some (c + p)) (nw_O σ 6)) F) := by
  unfold f_No_init
  rw [Option.bind_some, Option.bind_assoc]
  refine (h.nO 6).pA (p + 1) (by rw [nO_N, hp]) (nO_C hp) fun σ' h' => ?_
  rw [Option.bind_some]; exact hF _ h'
def tTa (T : Hp) (p : Nat) : Hp := up_R (nw_A (up_R (nw_A (nw_O T 9) x8) 9 0 p (some (p + 1))) y8) 9 1 p (some (p + 2))
theorem rel.pTa (h : rel c T σ) (hp : hp_N T = p) (hF : ∀ σ', rel c (tTa T p) σ' → P (F σ')) : P (Option.bind (f_Ta_init (some (c + p)) (nw_O σ 9)) F) := by
  unfold f_Ta_init
  rw [Option.bind_some, Option.bind_assoc]
  refine (h.nO 9).pA (p + 1) (by rw [nO_N, hp]) (nO_C hp) fun σ' h' => ?_
  rw [Option.bind_assoc]
  refine h'.pA (p + 2) (congrArg (· + 2) hp) (nO_C hp) fun σ' h' => ?_
  rw [Option.bind_some]; exact hF _ h'
def tLo (T : Hp) (p : Nat) : Hp := up_R (nw_A (up_R (nw_A (up_R (nw_A (nw_O T 5) y500) 5 0 p (some (p + 1))) y500) 5 1 p (some (p + 2))) y500) 5 2 p (some (p + 3))
theorem rel.pLo (h : rel c T σ) (hp : hp_N T = p) (hF : ∀ σ', rel c (tLo T p) σ' → P (F σ')) : P (Option.bind (f_Lo_init (some (c + p)) (nw_O σ 5)) F) := by
  unfold f_Lo_init
  rw [Option.bind_some, Option.bind_assoc]
  refine (h.nO 5).pA (p + 1) (by rw [nO_N, hp]) (nO_C hp) fun σ' h' => ?_
  rw [Option.bind_assoc]
  refine h'.pA (p + 2) (congrArg (· + 2) hp) (nO_C hp) fun σ' h' => ?_
  rw [Option.bind_assoc]
  refine h'.pA (p + 3) (congrArg (· + 3) hp) (nO_C hp) fun σ' h' => ?_
  rw [Option.bind_some]; exact hF _ h'
def tLi (T : Hp) (p : Nat) (v2 v3 : Int32) : Hp := up_I (up_I (nw_O T 4) 4 0 p v2) 4 1 p v3
theorem rel.pLi (h : rel c T σ) (hp : hp_N T = p) {v2 v3 : Int32} (hF : ∀ σ', rel c (tLi T p v2 v3) σ' → P (F σ')) : P (Option.bind (f_Li_init (some (c + p)) v2 v3 (nw_O σ 4)) F) := by
  unfold f_Li_init
  rw [Option.bind_some, Option.bind_assoc]
  refine (h.nO 4).pI (nO_C hp) fun σ' h' => ?_
  rw [Option.bind_assoc]
  refine h'.pI (nO_C hp) fun σ' h' => ?_
  rw [Option.bind_some]; exact hF _ h'
def tCo (T : Hp) (p z : Nat) : Hp := up_R (nw_A (up_I (nw_O T 2) 2 0 p (nI z)) (0, z / 2, .inl (fun _ => 0))) 2 1 p (some (p + 1))
theorem rel.pCo (h : rel c T σ) (hp : hp_N T = p) {N mx : Nat} (hN : 2000 ≤ N) (h5 : mx ≤ 5000) (hF : ∀ σ', rel c (tCo T p (szz mx 10 8)) σ' → P (F σ')) : P (Option.bind (f_Co_init N (some (c + p)) (nI mx) (nw_O σ 2)) F) := by
  obtain ⟨hz1, hz2⟩ := z_half (szz_ok (mx := mx))
  rw [co_run hN h5]
  unfold f_Co_init_26
  rw [Option.bind_assoc]
  refine (h.nO 2).pI (nO_C hp) fun σ' h' => ?_
  rw [if_neg hz1, Option.bind_assoc, hz2]
  refine h'.pA (p + 1) (congrArg (· + 1) hp) (nO_C hp) fun σ' h' => ?_
  rw [Option.bind_some]; exact hF _ h'
def tRo (T : Hp) (p k q : Nat) : Hp := up_R (nw_O T 7) 8 k p (some q)
theorem rel.pRo (h : rel c T σ) {k : Nat} (q : Nat) (hq : hp_N T = q) (hC : hp_C T p = some 8) (hne : p ≠ q) (hF : ∀ σ', rel c (tRo T p k q) σ' → P (F σ')) : P (Option.bind (f_Ro_init (some (hp_N σ)) (nw_O σ 7)) fun σ4 => Option.bind (st_R σ4 (some (c + p)) 8 k (some (hp_N σ))) F) := by
  unfold f_Ro_init
  rw [Option.bind_some, Option.bind_some, h.n q hq]
  exact (h.nO 7).pR (by rw [nO_Cn (by rw [hq]; exact hne)]; exact hC) hF
def tRs (T : Hp) (p : Nat) (x : Int32) : Hp := up_I (up_I (tRo (tRo (tRo (nw_O T 8) p 1 (p + 1)) p 2 (p + 2)) p 3 (p + 3)) 8 0 p x) 8 4 p (imax_ 1 (x / 100))
theorem rel.pRs (h : rel c T σ) (hp : hp_N T = p) {x : Int32} (hF : ∀ σ', rel c (tRs T p x) σ' → P (F σ')) : P (Option.bind (f_Rs_init (some (c + p)) x (nw_O σ 8)) F) := by
  unfold f_Rs_init
  rw [Option.bind_some]
  simp only [Option.bind_assoc, Option.bind_some]
  have c1 : hp_C (nw_O T 8) p = some 8 := nO_C hp
  have n1 : hp_N (nw_O T 8) = p + 1 := by rw [nO_N, hp]
  refine (h.nO 8).pRo (p + 1) n1 c1 (by omega) fun σ' h' => ?_
  have c2 : hp_C (tRo (nw_O T 8) p 1 (p + 1)) p = some 8 := (nO_Cn (by rw [n1]; omega)).trans c1
  have n2 : hp_N (tRo (nw_O T 8) p 1 (p + 1)) = p + 2 := congrArg (· + 1) n1
  refine h'.pRo (p + 2) n2 c2 (by omega) fun σ' h' => ?_
  have c3 : hp_C (tRo (tRo (nw_O T 8) p 1 (p + 1)) p 2 (p + 2)) p = some 8 := (nO_Cn (by rw [n2]; omega)).trans c2
  have n3 : hp_N (tRo (tRo (nw_O T 8) p 1 (p + 1)) p 2 (p + 2)) = p + 3 := congrArg (· + 1) n2
  refine h'.pRo (p + 3) n3 c3 (by omega) fun σ' h' => ?_
  have c4 : hp_C (tRo (tRo (tRo (nw_O T 8) p 1 (p + 1)) p 2 (p + 2)) p 3 (p + 3)) p = some 8 := (nO_Cn (by rw [n3]; omega)).trans c3
  refine h'.pI c4 fun σ' h' => ?_
  refine h'.pI c4 fun σ' h' => ?_
  exact hF _ h'
def tCl (T : Hp) (p : Nat) (x : Int32) : Hp := up_I (up_I (up_I (up_I (nw_O T 1) 1 8 p 1) 1 0 p (10 * x)) 1 1 p (imax_ 1 (x / 16))) 1 7 p (imax_ 1 (x / 16))
theorem rel.pCl (h : rel c T σ) (hp : hp_N T = p) {x : Int32} (hF : ∀ σ', rel c (tCl T p x) σ' → P (F σ')) : P (Option.bind (f_Cl_init (some (c + p)) x (nw_O σ 1)) F) := by
  unfold f_Cl_init
  rw [Option.bind_some, Option.bind_assoc]
  refine (h.nO 1).pZ (nO_C hp) fun σ' h' => ?_
  rw [Option.bind_assoc]
  refine h'.pI (nO_C hp) fun σ' h' => ?_
  rw [Option.bind_assoc]
  refine h'.pI (nO_C hp) fun σ' h' => ?_
  rw [Option.bind_assoc]
  refine h'.pL (nO_C hp) (x := imax_ 1 (x / 16)) (by rw [hI_I, if_pos ⟨rfl, rfl, rfl⟩]) ?_
  rw [Option.bind_assoc]
  refine h'.pI (nO_C hp) fun σ' h' => ?_
  rw [Option.bind_some]; exact hF _ h'
end RL3
theorem wInit {c N mx : Nat} (hN : 2000 ≤ N) (h5 : mx ≤ 5000) {v1 : Int32} (v2 v3 : Int32) (hmx : imax_ 1 (imin_ v1 5000) = nI mx) : ∃ σ T, f_W_init N (some c) v1 v2 v3 (nw_O (em c) 0) = some σ ∧ rel c T σ ∧ TC T ∧ TR T ∧ T7 T 18 ∧ T7 T 19 ∧ T7 T 20 ∧ TI T mx (szz mx 10 8) v2 v3 ∧ TA T (szz mx 10 8) := by
  have h := rel.nO (c := c) rel.em 0
  suffices hP : (fun o : Option Hp => ∃ σ T, o = some σ ∧ rel c T σ ∧ TC T ∧ TR T ∧ T7 T 18 ∧ T7 T 19 ∧ T7 T 20 ∧ TI T mx (szz mx 10 8) v2 v3 ∧ TA T (szz mx 10 8)) (f_W_init N (some c) v1 v2 v3 (nw_O (em c) 0)) from hP
  generalize hP : (fun o : Option Hp => ∃ σ T, o = some σ ∧ rel c T σ ∧ TC T ∧ TR T ∧ T7 T 18 ∧ T7 T 19 ∧ T7 T 20 ∧ TI T mx (szz mx 10 8) v2 v3 ∧ TA T (szz mx 10 8)) = P
  unfold f_W_init
  rw [Option.bind_some, hmx]
  refine h.pA (a := 0) 1 rfl rfl fun _ h => ?_
  refine h.pA (a := 0) 2 rfl rfl fun _ h => ?_
  rw [h.n 3 rfl]
  refine h.pNo rfl fun _ h => ?_
  refine h.pR (a := 0) rfl fun _ h => ?_
  rw [h.n 5 rfl]
  refine h.pNo rfl fun _ h => ?_
  refine h.pR (a := 0) rfl fun _ h => ?_
  rw [h.n 7 rfl]
  refine h.pTa rfl fun _ h => ?_
  refine h.pR (a := 0) rfl fun _ h => ?_
  rw [h.n 10 rfl]
  refine h.pLo rfl fun _ h => ?_
  refine h.pR (a := 0) rfl fun _ h => ?_
  refine h.pI (a := 0) rfl fun _ h => ?_
  rw [h.n 14 rfl]
  refine h.pLi rfl fun _ h => ?_
  refine h.pR (a := 0) rfl fun _ h => ?_
  rw [h.n 15 rfl]
  refine h.pCo rfl hN h5 fun _ h => ?_
  refine h.pR (a := 0) rfl fun _ h => ?_
  rw [h.n 17 rfl]
  refine h.pRs rfl fun _ h => ?_
  refine h.pR (a := 0) rfl fun _ h => ?_
  rw [h.n 21 rfl]
  refine h.pCl rfl fun _ h => ?_
  refine h.pR (a := 0) rfl fun _ h => ?_
  rw [← hP]
  refine ⟨_, _, rfl, h, ?_, ?_, ?_, ?_, ?_, ?_, ?_⟩
  · refine ⟨rfl, rfl, rfl, rfl, rfl, rfl, rfl, rfl, rfl, rfl, rfl, rfl, rfl⟩
  · refine ⟨rfl, rfl, rfl, rfl, rfl, rfl, rfl, rfl, rfl, rfl, rfl, rfl, rfl, rfl, rfl, rfl, rfl, rfl, rfl, rfl, rfl⟩
  · exact ⟨rfl, rfl, rfl, rfl⟩
  · exact ⟨rfl, rfl, rfl, rfl⟩
  · exact ⟨rfl, rfl, rfl, rfl⟩
  · refine ⟨rfl, rfl, rfl, rfl, rfl, rfl, rfl, rfl, rfl, rfl, rfl, rfl, rfl, rfl, rfl, rfl, rfl, rfl, rfl, rfl, rfl, rfl, rfl, rfl, rfl, rfl, rfl⟩
  · refine ⟨rfl, rfl, rfl, rfl, rfl, rfl, rfl, rfl, rfl, rfl⟩
