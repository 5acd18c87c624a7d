/-! LAYER 2: the worlds' readers over their writers -/
theorem hN_I {σ : Hp} {ci k a : Nat} {x : Int32} : hp_N (up_I σ ci k a x) = hp_N σ := rfl
theorem hN_L {σ : Hp} {ci k a : Nat} {x : Int64} : hp_N (up_L σ ci k a x) = hp_N σ := rfl
theorem hN_R {σ : Hp} {ci k a : Nat} {x : Option Nat} : hp_N (up_R σ ci k a x) = hp_N σ := rfl
theorem hN_A {σ : Hp} {a : Nat} {x : Nat × vp_A} : hp_N (up_A σ a x) = hp_N σ := rfl
theorem hC_I {σ : Hp} {ci k a b : Nat} {x : Int32} : hp_C (up_I σ ci k a x) b = hp_C σ b := rfl
theorem hC_L {σ : Hp} {ci k a b : Nat} {x : Int64} : hp_C (up_L σ ci k a x) b = hp_C σ b := rfl
theorem hC_R {σ : Hp} {ci k a b : Nat} {x : Option Nat} : hp_C (up_R σ ci k a x) b = hp_C σ b := rfl
theorem hC_A {σ : Hp} {a b : Nat} {x : Nat × vp_A} : hp_C (up_A σ a x) b = hp_C σ b := rfl
theorem hI_I {σ : Hp} {ci k a c j b : Nat} {x : Int32} : hp_I (up_I σ ci k a x) c j b = if c = ci ∧ j = k ∧ b = a then x else hp_I σ c j b := rfl
theorem hI_L {σ : Hp} {ci k a c j b : Nat} {x : Int64} : hp_I (up_L σ ci k a x) c j b = hp_I σ c j b := rfl
theorem hI_R {σ : Hp} {ci k a c j b : Nat} {x : Option Nat} : hp_I (up_R σ ci k a x) c j b = hp_I σ c j b := rfl
theorem hI_A {σ : Hp} {a c j b : Nat} {x : Nat × vp_A} : hp_I (up_A σ a x) c j b = hp_I σ c j b := rfl
theorem hL_L {σ : Hp} {ci k a c j b : Nat} {x : Int64} : hp_L (up_L σ ci k a x) c j b = if c = ci ∧ j = k ∧ b = a then x else hp_L σ c j b := rfl
theorem hL_I {σ : Hp} {ci k a c j b : Nat} {x : Int32} : hp_L (up_I σ ci k a x) c j b = hp_L σ c j b := rfl
theorem hL_R {σ : Hp} {ci k a c j b : Nat} {x : Option Nat} : hp_L (up_R σ ci k a x) c j b = hp_L σ c j b := rfl
theorem hL_A {σ : Hp} {a c j b : Nat} {x : Nat × vp_A} : hp_L (up_A σ a x) c j b = hp_L σ c j b := rfl
theorem hR_R {σ : Hp} {ci k a c j b : Nat} {x : Option Nat} : hp_R (up_R σ ci k a x) c j b = if c = ci ∧ j = k ∧ b = a then x else hp_R σ c j b := rfl
theorem hR_I {σ : Hp} {ci k a c j b : Nat} {x : Int32} : hp_R (up_I σ ci k a x) c j b = hp_R σ c j b := rfl
theorem hR_L {σ : Hp} {ci k a c j b : Nat} {x : Int64} : hp_R (up_L σ ci k a x) c j b = hp_R σ c j b := rfl
theorem hR_A {σ : Hp} {a c j b : Nat} {x : Nat × vp_A} : hp_R (up_A σ a x) c j b = hp_R σ c j b := rfl
theorem hA_A {σ : Hp} {a b : Nat} {x : Nat × vp_A} : hp_A (up_A σ a x) b = if b = a then some x else hp_A σ b := rfl
theorem hA_I {σ : Hp} {ci k a b : Nat} {x : Int32} : hp_A (up_I σ ci k a x) b = hp_A σ b := rfl
theorem hA_L {σ : Hp} {ci k a b : Nat} {x : Int64} : hp_A (up_L σ ci k a x) b = hp_A σ b := rfl
theorem hA_R {σ : Hp} {ci k a b : Nat} {x : Option Nat} : hp_A (up_R σ ci k a x) b = hp_A σ b := rfl
theorem isO {σ : Hp} {a ci : Nat} (h : hp_C σ a = some ci) : is_O σ (some a) ci = some a := by simp [is_O, h]
theorem ldI {σ : Hp} {a ci k : Nat} (h : hp_C σ a = some ci) : ld_I σ (some a) ci k = some (hp_I σ ci k a) := by simp [ld_I, isO h]
theorem ldL {σ : Hp} {a ci k : Nat} (h : hp_C σ a = some ci) : ld_L σ (some a) ci k = some (hp_L σ ci k a) := by simp [ld_L, isO h]
theorem ldR {σ : Hp} {a ci k : Nat} (h : hp_C σ a = some ci) : ld_R σ (some a) ci k = some (hp_R σ ci k a) := by simp [ld_R, isO h]
theorem stI {σ : Hp} {a ci k : Nat} {x : Int32} (h : hp_C σ a = some ci) : st_I σ (some a) ci k x = some (up_I σ ci k a x) := by simp [st_I, isO h]
theorem stL {σ : Hp} {a ci k : Nat} {x : Int64} (h : hp_C σ a = some ci) : st_L σ (some a) ci k x = some (up_L σ ci k a x) := by simp [st_L, isO h]
theorem stR {σ : Hp} {a ci k : Nat} {x : Option Nat} (h : hp_C σ a = some ci) : st_R σ (some a) ci k x = some (up_R σ ci k a x) := by simp [st_R, isO h]
theorem stZ0 {σ : Hp} {a ci k : Nat} (h : hp_C σ a = some ci) : st_Z σ (some a) ci k 0 = some (up_I σ ci k a 0) := by simp [st_Z, isO h]
theorem stZ1 {σ : Hp} {a ci k : Nat} (h : hp_C σ a = some ci) : st_Z σ (some a) ci k 1 = some (up_I σ ci k a 1) := by simp [st_Z, isO h]
/-! sums of weights -/
def sw (wt : Nat → Int32) : List Nat → Int32
  | [] => 0
  | e :: l => wt e + sw wt l
theorem sw_app (wt : Nat → Int32) (l1 l2 : List Nat) : sw wt (l1 ++ l2) = sw wt l1 + sw wt l2 := by
  induction l1 with
  | nil => simp [sw]
  | cons a l ih => simp [sw, ih, Int32.add_assoc]
theorem sw_mid (wt : Nat → Int32) (l1 l2 : List Nat) (e : Nat) : sw wt (l1 ++ e :: l2) = sw wt (l1 ++ l2) + wt e := by
  rw [sw_app, sw_app]
  simp only [sw]
  rw [Int32.add_comm (wt e), ← Int32.add_assoc]
/-! chains: a room's entries (by their addresses) between p and q -/
def seg (σ : Hp) (ra : Nat) : Option Nat → List Nat → Option Nat → Prop
  | _, [], _ => True
  | p, a :: l, q => hp_C σ a = some 3 ∧ hp_R σ 3 8 a = some ra ∧ hp_R σ 3 9 a = p ∧ hp_R σ 3 10 a = l.head?.or q ∧ seg σ ra (some a) l q
theorem seg_app {σ : Hp} {ra : Nat} {l1 l2 : List Nat} : ∀ {p q : Option Nat}, seg σ ra p (l1 ++ l2) q ↔ seg σ ra p l1 (l2.head?.or q) ∧ seg σ ra (l1.getLast?.or p) l2 q := by
  induction l1 with
  | nil => intro p q; simp [seg]
  | cons a l ih =>
    intro p q
    simp only [List.cons_append, seg, ih]
    cases l with
    | nil => simp [seg, and_assoc]
    | cons b l =>
      have e : ((a :: b :: l).getLast?.or p) = (b :: l).getLast?.or (some a) := by
        rw [List.getLast?_cons_cons]
        cases h : (b :: l).getLast? with
        | none => simp at h
        | some x => rfl
      rw [e]
      simp only [List.cons_append, List.head?_cons, Option.some_or, and_assoc]
theorem seg_congr {σ σ' : Hp} {ra : Nat} {l : List Nat} : ∀ {p q : Option Nat}, (∀ b ∈ l, hp_C σ' b = hp_C σ b ∧ hp_R σ' 3 8 b = hp_R σ 3 8 b ∧ hp_R σ' 3 9 b = hp_R σ 3 9 b ∧ hp_R σ' 3 10 b = hp_R σ 3 10 b) → seg σ ra p l q → seg σ' ra p l q := by
  induction l with
  | nil => intro p q _ _; trivial
  | cons a l ih =>
    intro p q h hs
    obtain ⟨h1, h2, h3, h4⟩ := h a List.mem_cons_self
    obtain ⟨s1, s2, s3, s4, s5⟩ := hs
    exact ⟨by rw [h1]; exact s1, by rw [h2]; exact s2, by rw [h3]; exact s3, by rw [h4]; exact s4, ih (fun b hb => h b (List.mem_cons_of_mem _ hb)) s5⟩
theorem seg_mem {σ : Hp} {ra : Nat} {l : List Nat} : ∀ {p q : Option Nat}, seg σ ra p l q → ∀ b ∈ l, hp_C σ b = some 3 ∧ hp_R σ 3 8 b = some ra := by
  induction l with
  | nil => intro p q _ b hb; cases hb
  | cons a l ih =>
    intro p q hs b hb
    obtain ⟨s1, s2, s3, s4, s5⟩ := hs
    rcases List.mem_cons.mp hb with rfl | hb
    · exact ⟨s1, s2⟩
    · exact ih s5 b hb
/-- a room at ra with the entries at l -/
def Chn (σ : Hp) (ra : Nat) (l : List Nat) : Prop := hp_C σ ra = some 7 ∧ hp_R σ 7 0 ra = l.head? ∧ hp_R σ 7 1 ra = l.getLast? ∧ hp_I σ 7 3 ra = nI l.length ∧ seg σ ra none l none ∧ l.Nodup
/-- what the rooms' own methods leave alone -/
def M37 (σ σ' : Hp) : Prop := hp_N σ' = hp_N σ ∧ (∀ b, hp_C σ' b = hp_C σ b) ∧ (∀ b, hp_A σ' b = hp_A σ b) ∧ (∀ c k b, hp_L σ' c k b = hp_L σ c k b) ∧ (∀ c k b, c ≠ 7 → hp_I σ' c k b = hp_I σ c k b) ∧ (∀ c k b, c ≠ 7 → c ≠ 3 → hp_R σ' c k b = hp_R σ c k b) ∧ ∀ k b, k < 8 → hp_R σ' 3 k b = hp_R σ 3 k b
theorem M37.rf {σ : Hp} : M37 σ σ := ⟨rfl, fun _ => rfl, fun _ => rfl, fun _ _ _ => rfl, fun _ _ _ _ => rfl, fun _ _ _ _ _ => rfl, fun _ _ _ => rfl⟩
theorem M37.trans {σ σ1 σ2 : Hp} (h : M37 σ σ1) (h' : M37 σ1 σ2) : M37 σ σ2 := by
  obtain ⟨a1, a2, a3, a4, a5, a6, a7⟩ := h
  obtain ⟨b1, b2, b3, b4, b5, b6, b7⟩ := h'
  exact ⟨b1.trans a1, fun b => (b2 b).trans (a2 b), fun b => (b3 b).trans (a3 b), fun c k b => (b4 c k b).trans (a4 c k b), fun c k b h => (b5 c k b h).trans (a5 c k b h), fun c k b h g => (b6 c k b h g).trans (a6 c k b h g), fun k b h => (b7 k b h).trans (a7 k b h)⟩
theorem M37.I7 {σ : Hp} {k a : Nat} {x : Int32} : M37 σ (up_I σ 7 k a x) := ⟨rfl, fun _ => rfl, fun _ => rfl, fun _ _ _ => rfl, fun c j b h => by rw [hI_I, if_neg (fun z => h z.1)], fun _ _ _ _ _ => rfl, fun _ _ _ => rfl⟩
theorem M37.R7 {σ : Hp} {k a : Nat} {x : Option Nat} : M37 σ (up_R σ 7 k a x) := ⟨rfl, fun _ => rfl, fun _ => rfl, fun _ _ _ => rfl, fun _ _ _ _ => rfl, fun c j b h _ => by rw [hR_R, if_neg (fun z => h z.1)], fun j b _ => by rw [hR_R, if_neg (fun z => by cases z.1)]⟩
theorem M37.R3 {σ : Hp} {k a : Nat} {x : Option Nat} (hk : 8 ≤ k) : M37 σ (up_R σ 3 k a x) := ⟨rfl, fun _ => rfl, fun _ => rfl, fun _ _ _ => rfl, fun _ _ _ _ => rfl, fun c j b _ h => by rw [hR_R, if_neg (fun z => h z.1)], fun j b h => by rw [hR_R, if_neg (fun z => by omega)]⟩
