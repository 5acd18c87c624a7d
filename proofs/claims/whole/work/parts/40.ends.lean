/-! ENDS, and which entry goes first -/
theorem lgc_lt0 {x y : Int64} : (lg_cmp x y < 0) ↔ x < y := by
  unfold lg_cmp
  by_cases h1 : x > y
  · rw [if_pos h1]; exact ⟨fun z => absurd z (by decide), fun z => absurd (Int64.lt_trans z h1) (Int64.lt_irrefl)⟩
  · rw [if_neg h1]
    by_cases h2 : x = y
    · subst h2; rw [if_pos rfl]; exact ⟨fun z => absurd z (by decide), fun z => absurd z (Int64.lt_irrefl)⟩
    · rw [if_neg h2]
      refine ⟨fun _ => Int64.lt_of_le_of_ne (Int64.not_lt.mp h1) h2, fun _ => by decide⟩
theorem lgc_eq0 {x y : Int64} : (lg_cmp x y = 0) ↔ x = y := by
  unfold lg_cmp
  by_cases h1 : x > y
  · rw [if_pos h1]; exact ⟨fun z => absurd z (by decide), fun z => absurd h1 (by rw [z]; exact Int64.lt_irrefl)⟩
  · rw [if_neg h1]
    by_cases h2 : x = y
    · subst h2; rw [if_pos rfl]; exact ⟨fun _ => rfl, fun _ => rfl⟩
    · rw [if_neg h2]; exact ⟨fun z => absurd z (by decide), fun z => absurd z h2⟩
theorem lgc_gt0 {x y : Int64} : (0 < lg_cmp x y) ↔ y < x := by
  unfold lg_cmp
  by_cases h1 : x > y
  · rw [if_pos h1]; exact ⟨fun _ => h1, fun _ => by decide⟩
  · rw [if_neg h1]
    by_cases h2 : x = y
    · subst h2; rw [if_pos rfl]; exact ⟨fun z => absurd z (by decide), fun z => absurd z (Int64.lt_irrefl)⟩
    · rw [if_neg h2]; exact ⟨fun z => absurd z (by decide), fun z => absurd z h1⟩
theorem lgc_le0 {x y : Int64} : (lg_cmp x y ≤ 0) ↔ x ≤ y := by
  unfold lg_cmp
  by_cases h1 : x > y
  · rw [if_pos h1]; exact ⟨fun z => absurd z (by decide), fun z => absurd h1 (Int64.not_lt.mpr z)⟩
  · rw [if_neg h1]
    by_cases h2 : x = y
    · subst h2; rw [if_pos rfl]; exact ⟨fun _ => Int64.le_refl _, fun _ => by decide⟩
    · rw [if_neg h2]; exact ⟨fun _ => Int64.not_lt.mp h1, fun _ => by decide⟩
section EE
variable {b σ : Hp} {m c n Q z N : Nat} {o : Nat × (Nat → Int32)} {es : Nat → Nat} {W : Nat → Int32} {s : RS} {L : Nat → List Nat}
theorem end_run (hb : hp_C b m = some 11) {e : Nat} (he : e < 1100) (hf : fe s e ≤ 4611686018427387904) : f_M_end (some m) (nI e) (rh b m s) = some (en s e, rh b m s) := by
  have hi : ix_ (nI e) 1100 = some e := ixN he (by omega)
  by_cases h14 : 0 < ga s 14 e
  · have h14' : ¬ ga s 14 e ≤ 0 := Int32.not_le.mpr h14
    simp [f_M_end, ldRr hb, ldIr hb, al14, al17, hi, h14, h14', en, lbt, fe]
  · have h14' : ga s 14 e ≤ 0 := Int32.not_lt.mp h14
    have key : ∀ w0 : Int64, w0 = fe s e → f_M_end_49 (some m) (nI e) w0 (rh b m s) = some (en s e, rh b m s) := by
      intro w0 hw
      subst hw
      by_cases h3 : 0 < gi s 3
      · have h3' : ¬ gi s 3 ≤ 0 := Int32.not_le.mpr h3
        have e1 : lbt s e = 1 := by simp [lbt, h14, h3]
        unfold en
        rw [e1]
        simp only [f_M_end_49, f_M_end_75, ldIr hb, ldRr hb, h3', al18, hi, Option.bind_some, Option.map_some, if_false, lgc_ge, lmin_]
        generalize gb s 18 e + (gi s 3).toInt64 = y
        generalize fe s e = x
        by_cases hxy : y < x
        · simp [hxy, Int64.le_of_lt hxy]
        · by_cases hyx : y ≤ x
          · have : x = y := Int64.le_antisymm (Int64.not_lt.mp hxy) hyx
            subst this; simp
          · simp [hxy, hyx]
      · have h3' : gi s 3 ≤ 0 := Int32.not_lt.mp h3
        have e1 : lbt s e = 0 := by simp [lbt, h14, h3]
        unfold en
        rw [e1]
        simp only [f_M_end_49, f_M_end_75, ldIr hb, h3', Option.bind_some, if_true, lgc_ge]
        by_cases hle : (4611686018427387904 : Int64) ≤ fe s e
        · have : fe s e = 4611686018427387904 := Int64.le_antisymm hf hle
          rw [if_pos hle, this]
        · rw [if_neg hle]
    by_cases h2 : 0 < gi s 2
    · have h2' : ¬ gi s 2 ≤ 0 := Int32.not_le.mpr h2
      simp [f_M_end, ldRr hb, ldIr hb, al14, al17, hi, h14', h2']
      exact key _ (by simp [fe, h14, h2])
    · have h2' : gi s 2 ≤ 0 := Int32.not_lt.mp h2
      simp [f_M_end, ldRr hb, ldIr hb, al14, al17, hi, h14', h2']
      exact key _ (by simp [fe, h14, h2])
def ovI (s : RS) (e : Nat) : Int32 := if en s e ≤ gl s 5 then 1 else 0
theorem over_run (hb : hp_C b m = some 11) {e : Nat} (he : e < 1100) (hf : fe s e ≤ 4611686018427387904) : f_M_isOver (some m) (nI e) (rh b m s) = some (ovI s e, rh b m s) := by
  have h1 := end_run hb he hf
  by_cases h : en s e ≤ gl s 5
  · have h' : ¬ gl s 5 < en s e := Int64.not_lt.mpr h
    simp [f_M_isOver, isOr hb, h1, pb, ldLr hb, lgc_gt0, h', ovI, h]
  · have h' : gl s 5 < en s e := Int64.not_le.mp h
    simp [f_M_isOver, isOr hb, h1, pb, ldLr hb, lgc_gt0, h', ovI, h]
theorem overC {e : Nat} (hC : hp_C σ (es e) = some 3) (hC4 : hp_C σ (c + 14) = some 4) (h5 : hp_L σ 3 5 (es e) = en s e) (ht : hp_L σ 4 2 (c + 14) = gl s 5) : f_Li_isOver (some (c + 14)) (some (es e)) σ = some (ovI s e, σ) := by
  by_cases h : en s e ≤ gl s 5
  · have h' : ¬ gl s 5 < en s e := Int64.not_lt.mpr h
    simp [f_Li_isOver, ldL, hC4, hC, h5, ht, lgc_lt0, h', ovI, h]
  · have h' : gl s 5 < en s e := Int64.not_le.mp h
    simp [f_Li_isOver, ldL, hC4, hC, h5, ht, lgc_lt0, h', ovI, h]
def seen (s : RS) (k : Nat) : Option Nat := match mpo s k with
  | none => none
  | some e => if en s e ≤ gl s 5 then none else some e
theorem mpo_none {k : Nat} (h : ga s 6 k = -1) : mpo s k = none := by simp [mpo, h]
theorem mpo_some {k e : Nat} (h : ga s 6 k = nI e) (he : e < 2 ^ 31) : mpo s k = some e := by
  have := nI_m1 he
  unfold mpo
  rw [h, if_neg this, nI_clamp he]
theorem WFa.mpo (h : WFa s n) {k e : Nat} (hn : n ≤ 600) (hk : k < 1000) (he : mpo s k = some e) : e < n ∧ ga s 6 k = nI e ∧ ga s 11 e = nI k ∧ ga s 20 e = 1 := by
  rcases h.2.2.1 k hk with h1 | ⟨d, h1, h2, h3, h4⟩
  · rw [mpo_none h1] at he; cases he
  · rw [mpo_some h2 (by omega)] at he
    cases he
    exact ⟨h1, h2, h3, h4⟩
theorem seen_run (hb : hp_C b m = some 11) (h : WFa s n) {k : Nat} (hn : n ≤ 600) (hk : k < 1000) : f_M_seen (some m) (nI k) (rh b m s) = some (oI (seen s k), rh b m s) := by
  have hi : ix_ (nI k) 1000 = some k := ixN hk (by omega)
  rcases h.2.2.1 k hk with h1 | ⟨e, h1, h2, h3, h4⟩
  · simp [f_M_seen, ldRr hb, al6, hi, h1, seen, mpo_none h1, oI]
  · have hne := nI_m1 (e := e) (by omega)
    have ho := over_run (b := b) (m := m) (s := s) hb (e := e) (by omega) (h.2.2.2.2.2 e h1)
    by_cases hov : en s e ≤ gl s 5
    · simp [f_M_seen, ldRr hb, al6, hi, h2, hne, isOr hb, ho, pb, ovI, hov, seen, mpo_some h2 (by omega), oI]
    · simp [f_M_seen, ldRr hb, al6, hi, h2, hne, isOr hb, ho, pb, ovI, hov, seen, mpo_some h2 (by omega), oI]
theorem Rest.over (h : Rest c o es n Q z W σ s) {e : Nat} (he : e < n) (hC : hp_C σ (es e) = some 3) : f_Li_isOver (some (c + 14)) (some (es e)) σ = some (ovI s e, σ) := overC hC h.1.2.2.2.2.2.2.2.2.2.2.2.2.2.2.2.1 (h.2.2.2.1 e he).2.2.2.2.1 h.2.1.2.2.2.2.2.2.2.1
theorem Rest.isSeen (h : Rest c o es n Q z W σ s) {e : Nat} (he : e < n) (hC : hp_C σ (es e) = some 3) : f_W_isSeen (some c) (some (es e)) σ = some (if en s e ≤ gl s 5 then 0 else 1, σ) := by
  have ho := h.over he hC
  obtain ⟨⟨k0, k1, k2, k3, k4, k5, k6, k7, k8, k9, k10, k11, k12, k13, k14, k15, -⟩, -⟩ := h
  by_cases hov : en s e ≤ gl s 5
  · simp [f_W_isSeen, ldR, k0, k7, isO, k15, ho, pb, ovI, hov]
  · simp [f_W_isSeen, ldR, k0, k7, isO, k15, ho, pb, ovI, hov]
end EE
/-! which goes first -/
def lto (E : Nat → Int64) (K : Nat → Int32) (a b : Nat) : Prop := (E a).toInt < (E b).toInt ∨ ((E a).toInt = (E b).toInt ∧ (K a).toInt < (K b).toInt)
def fovS (E : Nat → Int64) (K : Nat → Int32) (T : Int64) (a : Nat) (f : Option Nat) : Option Nat := if E a ≤ T then (match f with
  | none => some a
  | some g => if (E a).toInt < (E g).toInt ∨ ((E a).toInt = (E g).toInt ∧ (K a).toInt < (K g).toInt) then some a else some g) else f
def fov (E : Nat → Int64) (K : Nat → Int32) (T : Int64) : List Nat → Option Nat → Option Nat
  | [], f => f
  | a :: l, f => fov E K T l (fovS E K T a f)
theorem fov_app (E : Nat → Int64) (K : Nat → Int32) (T : Int64) (l1 l2 : List Nat) (f : Option Nat) : fov E K T (l1 ++ l2) f = fov E K T l2 (fov E K T l1 f) := by
  induction l1 generalizing f with
  | nil => rfl
  | cons a l ih => exact ih _
theorem fov_min {E : Nat → Int64} {K : Nat → Int32} {T : Int64} : ∀ (l : List Nat) (f : Option Nat), (∀ a b, (a ∈ l ∨ f = some a) → (b ∈ l ∨ f = some b) → a ≠ b → (K a).toInt ≠ (K b).toInt) → match fov E K T l f with
    | none => f = none ∧ ∀ e ∈ l, ¬ E e ≤ T
    | some h => ((h ∈ l ∧ E h ≤ T) ∨ f = some h) ∧ (∀ e ∈ l, E e ≤ T → e ≠ h → lto E K h e) ∧ ∀ g, f = some g → g ≠ h → lto E K h g := by
  intro l
  induction l with
  | nil =>
    intro f _
    cases f with
    | none => exact ⟨rfl, fun _ h => by cases h⟩
    | some g => exact ⟨Or.inr rfl, fun _ h => (by cases h), fun x hx hne => absurd (Option.some.inj hx).symm hne⟩
  | cons a l ih =>
    intro f hd
    show match fov E K T l (fovS E K T a f) with
      | none => _
      | some h => _
    by_cases hT : E a ≤ T
    · cases f with
      | none =>
        have e1 : fovS E K T a none = some a := by simp [fovS, hT]
        rw [e1]
        have := ih (some a) (fun x y hx hy hne => hd x y (hx.elim (fun z => Or.inl (List.mem_cons_of_mem _ z)) (fun z => by cases z; exact Or.inl List.mem_cons_self)) (hy.elim (fun z => Or.inl (List.mem_cons_of_mem _ z)) (fun z => by cases z; exact Or.inl List.mem_cons_self)) hne)
        cases hv : fov E K T l (some a) with
        | none => rw [hv] at this; cases this.1
        | some h =>
          rw [hv] at this
          obtain ⟨t1, t2, t3⟩ := this
          refine ⟨Or.inl ?_, ?_, fun g hg => by cases hg⟩
          · rcases t1 with t1 | t1
            · exact ⟨List.mem_cons_of_mem _ t1.1, t1.2⟩
            · cases t1; exact ⟨List.mem_cons_self, hT⟩
          · intro e he hE hne
            rcases List.mem_cons.mp he with rfl | he
            · exact t3 e rfl hne
            · exact t2 e he hE hne
      | some g =>
        by_cases hag : a = g
        · subst hag
          have e1 : fovS E K T a (some a) = some a := by simp [fovS]
          rw [e1]
          have := ih (some a) (fun x y hx hy hne => hd x y (hx.elim (fun z => Or.inl (List.mem_cons_of_mem _ z)) Or.inr) (hy.elim (fun z => Or.inl (List.mem_cons_of_mem _ z)) Or.inr) hne)
          cases hv : fov E K T l (some a) with
          | none => rw [hv] at this; cases this.1
          | some h =>
            rw [hv] at this
            obtain ⟨t1, t2, t3⟩ := this
            refine ⟨?_, ?_, t3⟩
            · rcases t1 with t1 | t1
              · exact Or.inl ⟨List.mem_cons_of_mem _ t1.1, t1.2⟩
              · exact Or.inr t1
            · intro e he hE hne
              rcases List.mem_cons.mp he with rfl | he
              · exact t3 e rfl hne
              · exact t2 e he hE hne
        · have hK := hd a g (Or.inl List.mem_cons_self) (Or.inr rfl) hag
          by_cases hl : (E a).toInt < (E g).toInt ∨ ((E a).toInt = (E g).toInt ∧ (K a).toInt < (K g).toInt)
          · have e1 : fovS E K T a (some g) = some a := by simp [fovS, hT, hl]
            rw [e1]
            have := ih (some a) (fun x y hx hy hne => hd x y (hx.elim (fun z => Or.inl (List.mem_cons_of_mem _ z)) (fun z => by cases z; exact Or.inl List.mem_cons_self)) (hy.elim (fun z => Or.inl (List.mem_cons_of_mem _ z)) (fun z => by cases z; exact Or.inl List.mem_cons_self)) hne)
            cases hv : fov E K T l (some a) with
            | none => rw [hv] at this; cases this.1
            | some h =>
              rw [hv] at this
              obtain ⟨t1, t2, t3⟩ := this
              refine ⟨?_, ?_, ?_⟩
              · rcases t1 with t1 | t1
                · exact Or.inl ⟨List.mem_cons_of_mem _ t1.1, t1.2⟩
                · cases t1; exact Or.inl ⟨List.mem_cons_self, hT⟩
              · intro e he hE hne
                rcases List.mem_cons.mp he with rfl | he
                · exact t3 e rfl hne
                · exact t2 e he hE hne
              · intro x hx hne
                cases hx
                by_cases hah : a = h
                · subst hah; exact hl
                · have := t3 a rfl hah
                  unfold lto at *
                  omega
          · have e1 : fovS E K T a (some g) = some g := by simp [fovS, hT, hl]
            rw [e1]
            have := ih (some g) (fun x y hx hy hne => hd x y (hx.elim (fun z => Or.inl (List.mem_cons_of_mem _ z)) Or.inr) (hy.elim (fun z => Or.inl (List.mem_cons_of_mem _ z)) Or.inr) hne)
            cases hv : fov E K T l (some g) with
            | none => rw [hv] at this; cases this.1
            | some h =>
              rw [hv] at this
              obtain ⟨t1, t2, t3⟩ := this
              refine ⟨?_, ?_, t3⟩
              · rcases t1 with t1 | t1
                · exact Or.inl ⟨List.mem_cons_of_mem _ t1.1, t1.2⟩
                · exact Or.inr t1
              · intro e he hE hne
                rcases List.mem_cons.mp he with rfl | he
                · by_cases hgh : g = h
                  · subst hgh; unfold lto; omega
                  · have := t3 g rfl hgh
                    unfold lto at *
                    omega
                · exact t2 e he hE hne
    · have e1 : fovS E K T a f = f := by simp [fovS, hT]
      rw [e1]
      have := ih f (fun x y hx hy hne => hd x y (hx.elim (fun z => Or.inl (List.mem_cons_of_mem _ z)) Or.inr) (hy.elim (fun z => Or.inl (List.mem_cons_of_mem _ z)) Or.inr) hne)
      cases hv : fov E K T l f with
      | none =>
        rw [hv] at this
        refine ⟨this.1, fun e he => ?_⟩
        rcases List.mem_cons.mp he with rfl | he
        · exact hT
        · exact this.2 e he
      | some h =>
        rw [hv] at this
        obtain ⟨t1, t2, t3⟩ := this
        refine ⟨?_, ?_, t3⟩
        · rcases t1 with t1 | t1
          · exact Or.inl ⟨List.mem_cons_of_mem _ t1.1, t1.2⟩
          · exact Or.inr t1
        · intro e he hE hne
          rcases List.mem_cons.mp he with rfl | he
          · exact absurd hE hT
          · exact t2 e he hE hne
section FO
variable {b σ : Hp} {m c n Q z N : Nat} {o : Nat × (Nat → Int32)} {es : Nat → Nat} {wt : Nat → Int32} {s : RS} {L : Nat → List Nat}
theorem lt64 {x y : Int64} : x < y ↔ x.toInt < y.toInt := Int64.lt_iff_toInt_lt
theorem eq64 {x y : Int64} : x = y ↔ x.toInt = y.toInt := Int64.toInt_inj.symm
theorem firstOver_loop (h : RI σ c es n wt L) {E : Nat → Int64} {K : Nat → Int32} (hE : ∀ e, e < n → hp_L σ 3 5 (es e) = E e) (hK : ∀ e, e < n → hp_I σ 3 0 (es e) = K e) (T : Int64) {r : Nat} (hr : in3 r) : ∀ (i : Nat) (l1 l2 : List Nat) (f : Option Nat), L r = l1 ++ l2 → l2.length < i → (∀ g, f = some g → g < n) → f_Ro_firstOver_9 N i T (f.map es) (l2.head?.map es) σ = some ((fov E K T l2 f).map es, σ) := by
  intro i
  induction i with
  | zero => intro l1 l2 f _ hi; omega
  | succ i ih =>
    intro l1 l2 f hl hi hf
    cases l2 with
    | nil => simp [f_Ro_firstOver_9, fov]
    | cons a l =>
      have han : a < n := h.lt hr (by rw [hl]; simp)
      have hC := h.c3 han
      have hnx := h.next hr hl
      have hi' : l.length < i := by simp only [List.length_cons] at hi; omega
      show _ = some ((fov E K T l (fovS E K T a f)).map es, σ)
      have hl' : L r = (l1 ++ [a]) ++ l := by rw [hl]; simp
      by_cases hT : E a ≤ T
      · have hT' : ¬ T < E a := Int64.not_lt.mpr hT
        cases f with
        | none =>
          have e1 : fovS E K T a none = some a := by simp [fovS, hT]
          have := ih (l1 ++ [a]) l (some a) hl' hi' (fun g hg => by cases hg; exact han)
          rw [e1, ← this]
          simp [f_Ro_firstOver_9, f_Ro_firstOver_38, ldL hC, ldR hC, hE a han, lgc_lt0, hT', f_Ro_goesBefore, f_Ro_goesBefore_16, f_Ro_goesBefore_32, pb, hnx]
        | some g =>
          have hgn := hf g rfl
          have hCg := h.c3 hgn
          by_cases hl2 : (E a).toInt < (E g).toInt ∨ ((E a).toInt = (E g).toInt ∧ (K a).toInt < (K g).toInt)
          · have e1 : fovS E K T a (some g) = some a := by simp [fovS, hT, hl2]
            have := ih (l1 ++ [a]) l (some a) hl' hi' (fun x hx => by cases hx; exact han)
            rw [e1, ← this]
            by_cases heq : E a = E g
            · have hk : ¬ K g ≤ K a := by
                rw [Int32.not_le, Int32.lt_iff_toInt_lt]
                rw [heq] at hl2; omega
              simp [f_Ro_firstOver_9, f_Ro_firstOver_38, ldL hC, ldR hC, ldI hC, ldL hCg, ldI hCg, hE a han, hE g hgn, hK a han, hK g hgn, lgc_lt0, hT', f_Ro_goesBefore, pb, lgc_eq0, heq, hk, hnx]
              rw [heq] at hT'
              simp [hT']
            · have hlt : ¬ E g ≤ E a := by
                rw [Int64.not_le, lt64]
                rw [eq64] at heq; omega
              simp [f_Ro_firstOver_9, f_Ro_firstOver_38, ldL hC, ldR hC, ldI hC, ldL hCg, ldI hCg, hE a han, hE g hgn, lgc_lt0, hT', f_Ro_goesBefore, f_Ro_goesBefore_16, f_Ro_goesBefore_32, pb, lgc_eq0, heq, lgc_ge, hlt, hnx]
          · have e1 : fovS E K T a (some g) = some g := by simp [fovS, hT, hl2]
            have := ih (l1 ++ [a]) l (some g) hl' hi' hf
            rw [e1, ← this]
            by_cases heq : E a = E g
            · have hk : K g ≤ K a := by
                rw [Int32.le_iff_toInt_le]
                rw [heq] at hl2; omega
              simp [f_Ro_firstOver_9, f_Ro_firstOver_38, ldL hC, ldR hC, ldI hC, ldL hCg, ldI hCg, hE a han, hE g hgn, hK a han, hK g hgn, lgc_lt0, hT', f_Ro_goesBefore, pb, lgc_eq0, heq, hk, hnx]
            · have hlt : E g ≤ E a := by
                rw [Int64.le_iff_toInt_le]
                rw [eq64] at heq; omega
              simp [f_Ro_firstOver_9, f_Ro_firstOver_38, ldL hC, ldR hC, ldI hC, ldL hCg, ldI hCg, hE a han, hE g hgn, lgc_lt0, hT', f_Ro_goesBefore, f_Ro_goesBefore_16, f_Ro_goesBefore_32, pb, lgc_eq0, heq, lgc_ge, hlt, hnx]
      · have hT' : T < E a := Int64.not_le.mp hT
        have e1 : fovS E K T a f = f := by simp [fovS, hT]
        have := ih (l1 ++ [a]) l f hl' hi' hf
        rw [e1, ← this]
        simp [f_Ro_firstOver_9, f_Ro_firstOver_38, ldL hC, ldR hC, hE a han, lgc_lt0, hT', hnx]
theorem fov_in {E : Nat → Int64} {K : Nat → Int32} {T : Int64} : ∀ (l : List Nat) (f : Option Nat) (g : Nat), fov E K T l f = some g → g ∈ l ∨ f = some g := by
  intro l
  induction l with
  | nil => intro f g h; exact Or.inr h
  | cons a l ih =>
    intro f g h
    rcases ih _ g h with h1 | h1
    · exact Or.inl (List.mem_cons_of_mem _ h1)
    · unfold fovS at h1
      split at h1
      · split at h1
        · cases h1; exact Or.inl List.mem_cons_self
        · split at h1
          · cases h1; exact Or.inl List.mem_cons_self
          · cases h1; exact Or.inr rfl
      · exact Or.inr h1
theorem RI.firstOver (h : RI σ c es n wt L) {E : Nat → Int64} {K : Nat → Int32} (hE : ∀ e, e < n → hp_L σ 3 5 (es e) = E e) (hK : ∀ e, e < n → hp_I σ 3 0 (es e) = K e) (T : Int64) (hn : n ≤ 600) (hN : 1000 ≤ N) : f_Rs_firstOver N (some (c + 17)) T σ = some ((fov E K T (L 1 ++ L 2 ++ L 3) none).map es, σ) := by
  obtain ⟨r0, r1, r2, r3⟩ := h.1
  have l1 := h.len i1; have l2 := h.len i2; have l3 := h.len i3
  have a1 := firstOver_loop (N := N) h hE hK T i1 N [] (L 1) none rfl (by omega) (fun g hg => by cases hg)
  have k1 : ∀ g, fov E K T (L 1) none = some g → g < n := fun g hg => by
    rcases fov_in _ _ _ hg with z | z
    · exact h.lt i1 z
    · cases z
  have a2 := firstOver_loop (N := N) h hE hK T i2 N [] (L 2) (fov E K T (L 1) none) rfl (by omega) k1
  have k2 : ∀ g, fov E K T (L 2) (fov E K T (L 1) none) = some g → g < n := fun g hg => by
    rcases fov_in _ _ _ hg with z | z
    · exact h.lt i2 z
    · exact k1 g z
  have a3 := firstOver_loop (N := N) h hE hK T i3 N [] (L 3) (fov E K T (L 2) (fov E K T (L 1) none)) rfl (by omega) k2
  rw [fov_app, fov_app]
  simp only [Option.map_none] at a1
  simp [f_Rs_firstOver, f_Ro_firstOver, ldR, r0, r1, r2, r3, isO, h.c7 i1, h.c7 i2, h.c7 i3, h.earliest i1, h.earliest i2, h.earliest i3, pb, a1, a2, a3]
end FO
