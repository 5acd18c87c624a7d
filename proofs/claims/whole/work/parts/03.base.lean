/-! THE WORLD: one heap, by classes and fields: next address; class of an object; int (and boolean), long and reference fields by class, number, address; arrays -/
abbrev Hp : Type := (Nat × (Nat → Option Nat)) × (Nat → Nat → Nat → Int32) × (Nat → Nat → Nat → Int64) × (Nat → Nat → Nat → Option Nat) × (Nat → Option (Nat × vp_A))
def hp_N (σ : Hp) : Nat := σ.1.1
def hp_C (σ : Hp) (a : Nat) : Option Nat := σ.1.2 a
def hp_I (σ : Hp) (ci k a : Nat) : Int32 := σ.2.1 ci k a
def hp_L (σ : Hp) (ci k a : Nat) : Int64 := σ.2.2.1 ci k a
def hp_R (σ : Hp) (ci k a : Nat) : Option Nat := σ.2.2.2.1 ci k a
def hp_A (σ : Hp) (a : Nat) : Option (Nat × vp_A) := σ.2.2.2.2 a
def up_I (σ : Hp) (ci k a : Nat) (x : Int32) : Hp := (σ.1, fun c j b => if c = ci ∧ j = k ∧ b = a then x else σ.2.1 c j b, σ.2.2)
def up_L (σ : Hp) (ci k a : Nat) (x : Int64) : Hp := (σ.1, σ.2.1, fun c j b => if c = ci ∧ j = k ∧ b = a then x else σ.2.2.1 c j b, σ.2.2.2)
def up_R (σ : Hp) (ci k a : Nat) (x : Option Nat) : Hp := (σ.1, σ.2.1, σ.2.2.1, fun c j b => if c = ci ∧ j = k ∧ b = a then x else σ.2.2.2.1 c j b, σ.2.2.2.2)
def up_A (σ : Hp) (a : Nat) (x : Nat × vp_A) : Hp := (σ.1, σ.2.1, σ.2.2.1, σ.2.2.2.1, fun b => if b = a then some x else σ.2.2.2.2 b)
def nw_O (σ : Hp) (ci : Nat) : Hp := ((σ.1.1 + 1, fun b => if b = σ.1.1 then some ci else σ.1.2 b), fun c j b => if b = σ.1.1 then 0 else σ.2.1 c j b, fun c j b => if b = σ.1.1 then 0 else σ.2.2.1 c j b, fun c j b => if b = σ.1.1 then none else σ.2.2.2.1 c j b, σ.2.2.2.2)
def nw_A (σ : Hp) (x : Nat × vp_A) : Hp := ((σ.1.1 + 1, σ.1.2), σ.2.1, σ.2.2.1, σ.2.2.2.1, fun b => if b = σ.1.1 then some x else σ.2.2.2.2 b)
/-! what a method's text does to it: none where it would throw by itself -/
def is_O (σ : Hp) (r : Option Nat) (ci : Nat) : Option Nat := match r with
  | some a => if hp_C σ a = some ci then some a else none
  | none => none
def ld_I (σ : Hp) (r : Option Nat) (ci k : Nat) : Option Int32 := (is_O σ r ci).map (hp_I σ ci k)
def ld_L (σ : Hp) (r : Option Nat) (ci k : Nat) : Option Int64 := (is_O σ r ci).map (hp_L σ ci k)
def ld_R (σ : Hp) (r : Option Nat) (ci k : Nat) : Option (Option Nat) := (is_O σ r ci).map (hp_R σ ci k)
def st_I (σ : Hp) (r : Option Nat) (ci k : Nat) (x : Int32) : Option Hp := (is_O σ r ci).map fun a => up_I σ ci k a x
def st_Z (σ : Hp) (r : Option Nat) (ci k : Nat) (x : Int32) : Option Hp := if x = 0 ∨ x = 1 then (is_O σ r ci).map fun a => up_I σ ci k a x else none
def st_L (σ : Hp) (r : Option Nat) (ci k : Nat) (x : Int64) : Option Hp := (is_O σ r ci).map fun a => up_L σ ci k a x
def st_R (σ : Hp) (r : Option Nat) (ci k : Nat) (x : Option Nat) : Option Hp := (is_O σ r ci).map fun a => up_R σ ci k a x
def ar_I (σ : Hp) (t : Nat) (r : Option Nat) : Option (Nat × Nat × (Nat → Int32)) := match r with
  | none => none
  | some a => match hp_A σ a with
    | some (t', n, .inl f) => if t' = t then some (a, n, f) else none
    | _ => none
def ar_L (σ : Hp) (t : Nat) (r : Option Nat) : Option (Nat × Nat × (Nat → Int64)) := match r with
  | none => none
  | some a => match hp_A σ a with
    | some (t', n, .inr (.inl f)) => if t' = t then some (a, n, f) else none
    | _ => none
def ar_R (σ : Hp) (t : Nat) (r : Option Nat) : Option (Nat × Nat × (Nat → Option Nat)) := match r with
  | none => none
  | some a => match hp_A σ a with
    | some (t', n, .inr (.inr (.inr (.inr f)))) => if t' = t then some (a, n, f) else none
    | _ => none
def ix_ (i : Int32) (n : Nat) : Option Nat := if i < 0 ∨ n ≤ i.toNatClampNeg then none else some i.toNatClampNeg
def al_I (σ : Hp) (t : Nat) (r : Option Nat) (i : Int32) : Option Int32 := (ar_I σ t r).bind fun q => (ix_ i q.2.1).map q.2.2
def al_L (σ : Hp) (t : Nat) (r : Option Nat) (i : Int32) : Option Int64 := (ar_L σ t r).bind fun q => (ix_ i q.2.1).map q.2.2
def al_R (σ : Hp) (t : Nat) (r : Option Nat) (i : Int32) : Option (Option Nat) := (ar_R σ t r).bind fun q => (ix_ i q.2.1).map q.2.2
def as_I (σ : Hp) (t : Nat) (r : Option Nat) (i x : Int32) : Option Hp := (ar_I σ t r).bind fun q => (ix_ i q.2.1).map fun j => up_A σ q.1 (t, q.2.1, .inl (va_up q.2.2 j x))
def as_Z (σ : Hp) (t : Nat) (r : Option Nat) (i x : Int32) : Option Hp := if x = 0 ∨ x = 1 then as_I σ t r i x else none
def as_L (σ : Hp) (t : Nat) (r : Option Nat) (i : Int32) (x : Int64) : Option Hp := (ar_L σ t r).bind fun q => (ix_ i q.2.1).map fun j => up_A σ q.1 (t, q.2.1, .inr (.inl (va_up q.2.2 j x)))
/-- a reference into an array of references to objects of the class ci: null, or such an object -/
def as_R (σ : Hp) (t ci : Nat) (r : Option Nat) (i : Int32) (x : Option Nat) : Option Hp := if x = none ∨ is_O σ x ci = x then (ar_R σ t r).bind fun q => (ix_ i q.2.1).map fun j => up_A σ q.1 (t, q.2.1, .inr (.inr (.inr (.inr (va_up q.2.2 j x))))) else none
def al_N (σ : Hp) (r : Option Nat) : Option Int32 := match r with
  | none => none
  | some a => match hp_A σ a with
    | some (_, n, _) => some (Int32.ofNat n)
    | none => none
def iushr_ (x y : Int32) : Int32 := (x.toUInt32 >>> (y.toUInt32 &&& Int32.toUInt32 31)).toInt32
theorem obind {α β : Type} {o : Option α} {f : α → Option β} {b : β} (h : o.bind f = some b) : ∃ a, o = some a ∧ f a = some b := by
  cases o with
  | none => cases h
  | some a => exact ⟨a, rfl, h⟩
theorem omap {α β : Type} {o : Option α} {f : α → β} {b : β} (h : o.map f = some b) : ∃ a, o = some a ∧ f a = b := by
  cases o with
  | none => cases h
  | some a => exact ⟨a, rfl, Option.some.inj h⟩
theorem is_O_spec {σ : Hp} {r : Option Nat} {ci a : Nat} (h : is_O σ r ci = some a) : r = some a ∧ hp_C σ a = some ci := by
  unfold is_O at h
  split at h
  · split at h
    · cases h; exact ⟨rfl, by assumption⟩
    · cases h
  · cases h
theorem ar_I_spec {σ : Hp} {r : Option Nat} {t a n : Nat} {f : Nat → Int32} (h : ar_I σ t r = some (a, n, f)) : r = some a ∧ hp_A σ a = some (t, n, .inl f) := by
  unfold ar_I at h
  split at h
  · cases h
  · split at h
    · split at h
      · cases h; subst_vars; exact ⟨rfl, by assumption⟩
      · cases h
    · cases h
theorem ar_L_spec {σ : Hp} {r : Option Nat} {t a n : Nat} {f : Nat → Int64} (h : ar_L σ t r = some (a, n, f)) : r = some a ∧ hp_A σ a = some (t, n, .inr (.inl f)) := by
  unfold ar_L at h
  split at h
  · cases h
  · split at h
    · split at h
      · cases h; subst_vars; exact ⟨rfl, by assumption⟩
      · cases h
    · cases h
theorem ar_R_spec {σ : Hp} {r : Option Nat} {t a n : Nat} {f : Nat → Option Nat} (h : ar_R σ t r = some (a, n, f)) : r = some a ∧ hp_A σ a = some (t, n, .inr (.inr (.inr (.inr f)))) := by
  unfold ar_R at h
  split at h
  · cases h
  · split at h
    · split at h
      · cases h; subst_vars; exact ⟨rfl, by assumption⟩
      · cases h
    · cases h
theorem ix_spec {i : Int32} {n j : Nat} (h : ix_ i n = some j) : vp_in i n ∧ j = i.toNatClampNeg := by
  unfold ix_ at h
  split at h
  · cases h
  · cases h; exact ⟨by assumption, rfl⟩
/-- a field's value -/
def fv (σ : Hp) (ci k a : Nat) : Value := match kY ci k with
  | .int => .int (hp_I σ ci k a)
  | .boolean => .int (hp_I σ ci k a)
  | .long => .long (hp_L σ ci k a)
  | _ => va_rf (hp_R σ ci k a)
abbrev DT : Type := va_G × (Nat → ClassId) × Nat
def tyl (cs : Nat → ClassId) : List (ClassId × FieldType) := [(cs 0, .int), (cs 1, .long), (cs 2, .boolean), (cs 3, .object "WindowCache$Entry"), (cs 4, .object "WindowCache$Way")]
/-- the heap holds the world; its cells lie in A -/
def wld (A : Nat → Prop) (DD : DT) (σ : Hp) (H : Heap) : Prop := H.size = hp_N σ ∧ (∀ a ci, hp_C σ a = some ci → ci < 12 ∧ A a ∧ hp_A σ a = none ∧ t_OB a (DD.1.1 ci) (kN ci) (DD.1.2 ci) H (fun k => fv σ ci k a)) ∧ ∀ a t x, hp_A σ a = some (t, x) → A a ∧ ∃ q, (tyl DD.2.1)[t]? = some q ∧ H[a]? = some (vp_cell q.1 x)
def dm (σ : Hp) : Nat → Prop := fun q => (hp_C σ q ≠ none ∨ hp_A σ q ≠ none) ∨ hp_N σ ≤ q
theorem wld.mono {A B : Nat → Prop} {DD : DT} {σ : Hp} {H : Heap} (h : wld A DD σ H) (hAB : ∀ q, A q → B q) : wld B DD σ H := ⟨h.1, fun a ci hc => ⟨(h.2.1 a ci hc).1, hAB _ (h.2.1 a ci hc).2.1, (h.2.1 a ci hc).2.2⟩, fun a t x hx => ⟨hAB _ (h.2.2 a t x hx).1, (h.2.2 a t x hx).2⟩⟩
theorem wld.self {A : Nat → Prop} {DD : DT} {σ : Hp} {H : Heap} (h : wld A DD σ H) : wld (dm σ) DD σ H := ⟨h.1, fun a ci hc => ⟨(h.2.1 a ci hc).1, Or.inl (Or.inl (by rw [hc]; exact fun z => by cases z)), (h.2.1 a ci hc).2.2⟩, fun a t x hx => ⟨Or.inl (Or.inr (by rw [hx]; exact fun z => by cases z)), (h.2.2 a t x hx).2⟩⟩
theorem wld.in {A : Nat → Prop} {DD : DT} {σ : Hp} {H : Heap} (h : wld A DD σ H) (hA : ∀ q, H.size ≤ q → A q) : ∀ q, dm σ q → A q := by
  intro q hq
  rcases hq with (hq | hq) | hq
  · cases hc : hp_C σ q with
    | none => exact absurd hc hq
    | some ci => exact (h.2.1 q ci hc).2.1
  · cases hc : hp_A σ q with
    | none => exact absurd hc hq
    | some x => exact (h.2.2 q x.1 x.2 hc).1
  · exact hA q (by rw [h.1]; exact hq)
theorem wld.ltC {A : Nat → Prop} {DD : DT} {σ : Hp} {H : Heap} (h : wld A DD σ H) {a ci : Nat} (hc : hp_C σ a = some ci) : a < H.size := by
  obtain ⟨cell, h1, -⟩ := (h.2.1 a ci hc).2.2.2
  exact (Array.getElem?_eq_some_iff.mp h1).1
theorem wld.ltA {A : Nat → Prop} {DD : DT} {σ : Hp} {H : Heap} (h : wld A DD σ H) {a : Nat} {x : Nat × vp_A} (hc : hp_A σ a = some x) : a < H.size := by
  obtain ⟨q, -, h1⟩ := (h.2.2 a x.1 x.2 hc).2
  exact (Array.getElem?_eq_some_iff.mp h1).1
/-- one field written -/
def ptR (σ σ' : Hp) (ci k a : Nat) (v : Value) : Prop := hp_N σ' = hp_N σ ∧ (∀ b, hp_C σ' b = hp_C σ b) ∧ (∀ b, hp_A σ' b = hp_A σ b) ∧ ∀ c j b, fv σ' c j b = if c = ci ∧ j = k ∧ b = a then v else fv σ c j b
theorem wld.put {A : Nat → Prop} {DD : DT} {σ σ' : Hp} {H H1 : Heap} {ci k a : Nat} {v : Value} (h : wld A DD σ H) (hc : hp_C σ a = some ci) (hp : ptR σ σ' ci k a v) (hz : H1.size = H.size) (oq : ∀ q : Nat, q ≠ a → H1[q]? = H[q]?) (ho : t_OB a (DD.1.1 ci) (kN ci) (DD.1.2 ci) H1 (updV (fun j => fv σ ci j a) k v)) : wld A DD σ' H1 := by
  obtain ⟨p1, p2, p3, p4⟩ := hp
  refine ⟨by rw [hz, h.1, p1], fun b cb hb => ?_, fun b t x hb => ?_⟩
  · rw [p2] at hb
    obtain ⟨g1, g2, g3, g4⟩ := h.2.1 b cb hb
    refine ⟨g1, g2, by rw [p3]; exact g3, ?_⟩
    by_cases hba : b = a
    · subst hba
      cases hc.symm.trans hb
      refine ho.to fun j _ => ?_
      rw [p4]
      by_cases hj : j = k
      · subst hj; simp [updV]
      · simp [updV, hj]
    · refine (g4.kept (oq b hba)).to fun j _ => ?_
      rw [p4, if_neg (fun z => hba z.2.2)]
  · rw [p3] at hb
    obtain ⟨g1, q, g2, g3⟩ := h.2.2 b t x hb
    refine ⟨g1, q, g2, ?_⟩
    by_cases hba : b = a
    · subst hba
      rw [(h.2.1 b ci hc).2.2.1] at hb
      cases hb
    · rw [oq b hba]; exact g3
theorem ptR_I {σ : Hp} {ci k a : Nat} {x : Int32} (hty : kY ci k = .int ∨ kY ci k = .boolean) : ptR σ (up_I σ ci k a x) ci k a (.int x) := by
  refine ⟨rfl, fun _ => rfl, fun _ => rfl, fun c j b => ?_⟩
  by_cases hx : c = ci ∧ j = k ∧ b = a
  · obtain ⟨rfl, rfl, rfl⟩ := hx
    rcases hty with hty | hty <;> simp [fv, hty, hp_I, up_I]
  · rw [if_neg hx]
    simp only [fv, hp_I, hp_L, hp_R, up_I]
    cases kY c j <;> simp [hx]
theorem ptR_L {σ : Hp} {ci k a : Nat} {x : Int64} (hty : kY ci k = .long) : ptR σ (up_L σ ci k a x) ci k a (.long x) := by
  refine ⟨rfl, fun _ => rfl, fun _ => rfl, fun c j b => ?_⟩
  by_cases hx : c = ci ∧ j = k ∧ b = a
  · obtain ⟨rfl, rfl, rfl⟩ := hx
    simp [fv, hty, hp_L, up_L]
  · rw [if_neg hx]
    simp only [fv, hp_I, hp_L, hp_R, up_L]
    cases kY c j <;> simp [hx]
def isR (t : FieldType) : Bool := match t with
  | .object _ => true
  | .array _ => true
  | _ => false
theorem ptR_R {σ : Hp} {ci k a : Nat} {x : Option Nat} (hty : isR (kY ci k) = true) : ptR σ (up_R σ ci k a x) ci k a (va_rf x) := by
  refine ⟨rfl, fun _ => rfl, fun _ => rfl, fun c j b => ?_⟩
  by_cases hx : c = ci ∧ j = k ∧ b = a
  · obtain ⟨rfl, rfl, rfl⟩ := hx
    cases h : kY c j <;> rw [h] at hty <;> first | (simp [fv, h, hp_R, up_R]; done) | cases hty
  · rw [if_neg hx]
    simp only [fv, hp_I, hp_L, hp_R, up_R]
    cases kY c j <;> simp [hx]
/-- an array written -/
theorem wld.arr {A : Nat → Prop} {DD : DT} {σ : Hp} {H H1 : Heap} {a t : Nat} {x y : vp_A} {q : ClassId × FieldType} (h : wld A DD σ H) (hc : hp_A σ a = some (t, x)) (hq : (tyl DD.2.1)[t]? = some q) (hz : H1.size = H.size) (oq : ∀ q : Nat, q ≠ a → H1[q]? = H[q]?) (ho : H1[a]? = some (vp_cell q.1 y)) : wld A DD (up_A σ a (t, y)) H1 := by
  refine ⟨hz.trans h.1, fun b cb hb => ?_, fun b t' x' hb => ?_⟩
  · obtain ⟨g1, g2, g3, g4⟩ := h.2.1 b cb hb
    have hba : b ≠ a := fun z => by subst z; rw [g3] at hc; cases hc
    exact ⟨g1, g2, by show (if b = a then some (t, y) else hp_A σ b) = none; rw [if_neg hba]; exact g3, g4.kept (oq b hba)⟩
  · by_cases hba : b = a
    · subst hba
      have hb' : (if b = b then some (t, y) else hp_A σ b) = some (t', x') := hb
      rw [if_pos rfl] at hb'
      cases hb'
      exact ⟨(h.2.2 b t x hc).1, q, hq, ho⟩
    · have hb' : (if b = a then some (t, y) else hp_A σ b) = some (t', x') := hb
      rw [if_neg hba] at hb'
      obtain ⟨g1, r, g2, g3⟩ := h.2.2 b t' x' hb'
      exact ⟨g1, r, g2, by rw [oq b hba]; exact g3⟩
/-- an object made -/
theorem fv_nwO_old {σ : Hp} {ci c j b : Nat} (h : b ≠ hp_N σ) : fv (nw_O σ ci) c j b = fv σ c j b := by
  have h' : ¬ b = σ.1.1 := h
  simp only [fv, hp_I, hp_L, hp_R, nw_O, if_neg h']
theorem fv_nwO_new {σ : Hp} {ci j : Nat} (hty : kY ci j = .int ∨ kY ci j = .boolean ∨ kY ci j = .long ∨ isR (kY ci j) = true) : fv (nw_O σ ci) ci j (hp_N σ) = defaultValue (kY ci j) := by
  rcases hty with h | h | h | h
  · simp [fv, h, hp_I, nw_O, hp_N, defaultValue]
  · simp [fv, h, hp_I, nw_O, hp_N, defaultValue]
  · simp [fv, h, hp_L, nw_O, hp_N, defaultValue]
  · cases h2 : kY ci j <;> rw [h2] at h <;> first | (simp [fv, h2, hp_R, nw_O, hp_N, defaultValue, va_rf]; done) | cases h
theorem wld.newO {A : Nat → Prop} {DD : DT} {σ : Hp} {H H1 : Heap} {ci : Nat} (h : wld A DD σ H) (hci : ci < 12) (hA : A H.size) (hz : H1.size = H.size + 1) (oq : ∀ q : Nat, q < H.size → H1[q]? = H[q]?) (ho : t_OB H.size (DD.1.1 ci) (kN ci) (DD.1.2 ci) H1 (fun k => fv (nw_O σ ci) ci k H.size)) : wld A DD (nw_O σ ci) H1 := by
  have hN : H.size = hp_N σ := h.1
  refine ⟨by rw [hz, hN]; rfl, fun b cb hb => ?_, fun b t x hb => ?_⟩
  · by_cases hba : b = hp_N σ
    · subst hba
      have hb' : (if hp_N σ = hp_N σ then some ci else hp_C σ (hp_N σ)) = some cb := hb
      rw [if_pos rfl] at hb'
      cases hb'
      refine ⟨hci, hN ▸ hA, ?_, hN ▸ ho⟩
      cases hx : hp_A σ (hp_N σ) with
      | none => exact hx
      | some x => exact absurd (h.ltA hx) (by rw [hN]; exact Nat.lt_irrefl _)
    · have hb' : (if b = hp_N σ then some ci else hp_C σ b) = some cb := hb
      rw [if_neg hba] at hb'
      obtain ⟨g1, g2, g3, g4⟩ := h.2.1 b cb hb'
      exact ⟨g1, g2, g3, (g4.kept (oq b (h.ltC hb'))).to fun j _ => (fv_nwO_old hba).symm⟩
  · obtain ⟨g1, q, g2, g3⟩ := h.2.2 b t x hb
    exact ⟨g1, q, g2, by rw [oq b (h.ltA (x := (t, x)) hb)]; exact g3⟩
/-- an array made -/
theorem wld.newA {A : Nat → Prop} {DD : DT} {σ : Hp} {H H1 : Heap} {t : Nat} {y : vp_A} {q : ClassId × FieldType} (h : wld A DD σ H) (hA : A H.size) (hq : (tyl DD.2.1)[t]? = some q) (hz : H1.size = H.size + 1) (oq : ∀ q : Nat, q < H.size → H1[q]? = H[q]?) (ho : H1[H.size]? = some (vp_cell q.1 y)) : wld A DD (nw_A σ (t, y)) H1 := by
  have hN : H.size = hp_N σ := h.1
  refine ⟨by rw [hz, hN]; rfl, fun b cb hb => ?_, fun b t' x' hb => ?_⟩
  · obtain ⟨g1, g2, g3, g4⟩ := h.2.1 b cb hb
    have hlt := h.ltC hb
    exact ⟨g1, g2, by show (if b = hp_N σ then some (t, y) else hp_A σ b) = none; rw [if_neg (by omega)]; exact g3, g4.kept (oq b hlt)⟩
  · by_cases hba : b = hp_N σ
    · subst hba
      have hb' : (if hp_N σ = hp_N σ then some (t, y) else hp_A σ (hp_N σ)) = some (t', x') := hb
      rw [if_pos rfl] at hb'
      cases hb'
      exact ⟨hN ▸ hA, q, hq, hN ▸ ho⟩
    · have hb' : (if b = hp_N σ then some (t, y) else hp_A σ b) = some (t', x') := hb
      rw [if_neg hba] at hb'
      obtain ⟨g1, r, g2, g3⟩ := h.2.2 b t' x' hb'
      exact ⟨g1, r, g2, by rw [oq b (h.ltA (x := (t', x')) hb')]; exact g3⟩
/-! the words; what a state knows -/
def TW (args : Array Value) (s : State) : Prop := ∀ w ∈ lw_tbl, goodWord w = true → w.before args s = true
def wsM (y : MethodName) (cc : ByteArray) (n : Nat) (ret : Option FieldType) : List Cond := .code y cc n ret :: lw_tbl.filter goodWord
theorem TW_of {y : MethodName} {cc : ByteArray} {n : Nat} {ret : Option FieldType} {args : Array Value} {s : State} (h : ∀ w ∈ wsM y cc n ret, w.before args s = true) : TW args s := fun w hw hg => h w (List.mem_cons_of_mem _ (List.mem_filter.mpr ⟨hw, hg⟩))
theorem TW_back {args : Array Value} {s : State} (h : TW args s) {y : MethodName} {cc : ByteArray} {n : Nat} {ret : Option FieldType} (hc : Cond.code y cc n ret ∈ lw_tbl) : ∀ w ∈ wsM y cc n ret, w.before args s = true := by
  intro w hw
  rcases List.mem_cons.mp hw with rfl | hw
  · exact h _ hc rfl
  · exact h w (List.mem_filter.mp hw).1 (List.mem_filter.mp hw).2
theorem wsM_good {y : MethodName} {cc : ByteArray} {n : Nat} {ret : Option FieldType} (hc : Cond.code y cc n ret ∈ lw_tbl) : GoodIn (lw_tbl.filter goodWord) (wsM y cc n ret) := by
  intro w hw
  rcases List.mem_cons.mp hw with rfl | hw
  · exact ⟨List.mem_filter.mpr ⟨hc, rfl⟩, good_of_word rfl⟩
  · exact ⟨hw, good_of_word (List.mem_filter.mp hw).2⟩
def nests : List Cond := [.methodLinkNest "WindowCache" 23 ⟨"WindowCache$Notes", "<init>", "()V"⟩ "WindowCache", .methodLinkNest "WindowCache" 33 ⟨"WindowCache$Tasks", "<init>", "()V"⟩ "WindowCache", .methodLinkNest "WindowCache" 40 ⟨"WindowCache$Log", "<init>", "()V"⟩ "WindowCache", .methodLinkNest "WindowCache$Rooms" 9 ⟨"WindowCache$Room", "<init>", "()V"⟩ "WindowCache"]
def oddn (j : Nat) : Int32 := match j with
  | 0 => -1640531527
  | 1 => -2048144777
  | 2 => -1028477379
  | _ => 668265263
def oddv (j : Nat) : Value := .int (oddn j)
/-- a static that holds a reference or null, as the machine's own makers of exceptions read it -/
def ST (C n d : String) (A : Nat → Prop) (U : State) (H : Heap) : Prop := ∃ (c : ClassId) (k : Class) (i : Nat) (f : Field) (a : Nat) (cell : Cell) (v : Value), U.vm.findClass C = some c ∧ U.fieldFound? C n d = some (c, k, i, f) ∧ f.isStatic = true ∧ k.statics = some a ∧ k.staticTypes[f.slot]? = some f.type ∧ H[a]? = some cell ∧ cell.vm.isStatics = true ∧ cell.cls = c ∧ f.slot < cell.slots.size ∧ cell.slots[f.slot]? = some v ∧ (v = .null ∨ ∃ t, v = .ref t) ∧ ¬ A a
theorem ST.to {C n d : String} {A B : Nat → Prop} {u U : State} {H H1 : Heap} (h : ST C n d A u H) (hvm : u.vm.Alike U.vm) (hq : ∀ a : Nat, a < H.size → ¬ A a → H1[a]? = H[a]?) (hAB : ∀ q, B q → A q) : ST C n d B U H1 := by
  obtain ⟨c, k, i, f, a, cell, v, h1, h2, h3, h4, h5, h6, h7, h8, h9, h10, h11, h12⟩ := h
  obtain ⟨k', hi', he⟩ := State.fieldFound?_setVm hvm h2
  exact ⟨c, k', i, f, a, cell, v, by rw [hvm.findClass]; exact h1, hi', h3, by rw [he]; exact h4, by rw [he]; exact h5, by rw [hq a (Array.getElem?_eq_some_iff.mp h6).1 h12]; exact h6, h7, h8, h9, h10, h11, fun z => h12 (hAB a z)⟩
theorem ST.lays {C n d : String} {A : Nat → Prop} {U : State} {args : Array Value} (h : ST C n d A U U.heap) : (Cond.laysStatic C n d).before args U = true := by
  obtain ⟨c, k, i, f, a, cell, v, h1, h2, h3, h4, h5, h6, h7, h8, h9, h10, h11, h12⟩ := h
  simp [Cond.before, Cond.holds, Cond.value, h1, h2, h3, h4, h5, h6, h7, h8, h9]
theorem ST.isRef {C n d : String} {A : Nat → Prop} {U : State} {args : Array Value} (h : ST C n d A U U.heap) : (Cond.isRef (.static C n d)).before args U = true := by
  obtain ⟨c, k, i, f, a, cell, v, h1, h2, h3, h4, h5, h6, h7, h8, h9, h10, h11, h12⟩ := h
  have e : (Term.static C n d).eval args U none [] U = some v := by simp [Term.eval, State.fieldNamed?, h2, h3, h4, h6, h7, h10]
  rcases h11 with rfl | ⟨t, rfl⟩ <;> simp [Cond.before, Cond.holds, Cond.value, e]
theorem ST.of {C n d : String} {A : Nat → Prop} {s : State} {args : Array Value} (hl : (Cond.laysStatic C n d).before args s = true) (hr : (Cond.isRef (.static C n d)).before args s = true) (hA : ∀ a : Nat, a < s.heap.size → ¬ A a) : ST C n d A s s.heap := by
  obtain ⟨c, k, i, f, a, cell, hc, hi, hst, ha, hcell, hs, hcls, hlt, hty⟩ := Cond.laysStatic_spec hl
  obtain ⟨v, hv⟩ : ∃ v, cell.slots[f.slot]? = some v := ⟨cell.slots[f.slot], by simp [hlt]⟩
  have e : (Term.static C n d).eval args s none [] s = some v := by simp [Term.eval, State.fieldNamed?, hi, hst, ha, hcell, hs, hv]
  refine ⟨c, k, i, f, a, cell, v, hc, hi, hst, ha, hty, hcell, hs, hcls, hlt, hv, ?_, hA a (Array.getElem?_eq_some_iff.mp hcell).1⟩
  simp only [Cond.before, Cond.holds, Cond.value, e] at hr
  cases v with
  | null => exact Or.inl rfl
  | ref t => exact Or.inr ⟨t, rfl⟩
  | _ => simp at hr
def decls : List Cond := [.declares ⟨"java/lang/RuntimeException", "<init>", "()V"⟩, .declares ⟨"java/lang/Exception", "<init>", "()V"⟩, .declares ⟨"java/lang/Throwable", "<init>", "()V"⟩]
/-- the two exceptions that are thrown: the name of each -/
def xn (k : Nat) : String := match k with
  | 0 => "java/lang/IllegalArgumentException"
  | _ => "java/lang/IllegalStateException"
def XC (U : State) : Prop := ∃ c : Nat → ClassId, ∀ j k, j < 2 → k < 2 → U.vm.findClass (xn j) = some (c j) ∧ U.vm.assignable (c j) (c k) = decide (j = k)
theorem XC.moved {u U : State} (hvm : u.vm.Alike U.vm) (h : XC u) : XC U := by
  obtain ⟨c, h⟩ := h
  exact ⟨c, fun j k hj hk => ⟨by rw [hvm.findClass]; exact (h j k hj hk).1, by rw [hvm.assignable]; exact (h j k hj hk).2⟩⟩
theorem XC.cast {U : State} {args : Array Value} (h : XC U) {k : Nat} (hk : k < 2) : (Cond.castable (xn k) (xn k)).before args U = true := by
  obtain ⟨c, h⟩ := h
  obtain ⟨h1, h2⟩ := h k k hk hk
  simp [Cond.before, Cond.holds, Cond.value, h1, h2]
def XK (A : Nat → Prop) (U : State) : Prop := ST "java/lang/Throwable" "UNASSIGNED_STACK" "[Ljava/lang/StackTraceElement;" A U U.heap ∧ ST "java/lang/Throwable" "SUPPRESSED_SENTINEL" "Ljava/util/List;" A U U.heap ∧ (∀ w ∈ decls, va_Nw w U) ∧ XC U
def KN (DD : DT) (A : Nat → Prop) (U : State) : Prop := va_K DD.1 kcl (tyl DD.2.1) U ∧ (∀ w ∈ nests, va_Nw w U) ∧ va_AO "WindowCache$Entry" U ∧ va_AO "WindowCache$Way" U ∧ va_Z "WindowCache$Counts" "ODD" "[I" (.ref DD.2.2) A U U.heap ∧ va_T .int DD.2.2 4 oddv A U U.heap ∧ XK A U
theorem KN.to {DD : DT} {A B : Nat → Prop} {s U : State} {H : Heap} {locs : List Loc} (h : KN DD A s) (hU : U.heap = H) (hS : va_S A s.heap H locs) (hW : s.WarmedH U.vm) (hAB : ∀ q, B q → A q) : KN DD B U := by
  obtain ⟨h1, h2, h3, h4, h5, h6, h7, h8, h9, h10⟩ := h
  have hk : ∀ a : Nat, a < s.heap.size → ¬ A a → U.heap[a]? = s.heap[a]? := fun a q1 q2 => by rw [hU]; exact hS.2.1 a q1 q2
  refine ⟨va_K.moved hW.alike h1, fun w hw => ?_, va_AO.moved hW.alike h3, va_AO.moved hW.alike h4, ((va_Z.moved hW.alike (h5.kept hk)).narrow hAB), ((va_T.moved hW.alike (h6.kept hk)).narrow hAB), h7.to hW.alike hk hAB, h8.to hW.alike hk hAB, fun w hw => ?_, h10.moved hW.alike⟩
  · have hw' := h2 w hw
    simp only [nests, List.mem_cons, List.not_mem_nil, or_false] at hw
    rcases hw with rfl | rfl | rfl | rfl <;> exact va_Nw.warmM hW hw'
  · have hw' := h9 w hw
    simp only [decls, List.mem_cons, List.not_mem_nil, or_false] at hw
    rcases hw with rfl | rfl | rfl <;> exact va_Nw.warmD hW hw'
