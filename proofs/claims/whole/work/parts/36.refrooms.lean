/-! THE REFERENCE's ROOMS -/
/-- the best of the entries below j -/
def bst (P : Nat → Prop) [DecidablePred P] (lt : Nat → Nat → Prop) [∀ a b, Decidable (lt a b)] : Nat → Option Nat
  | 0 => none
  | j + 1 => match bst P lt j with
    | none => if P j then some j else none
    | some d => if P j ∧ lt j d then some j else some d
theorem bst_in {P : Nat → Prop} [DecidablePred P] {lt : Nat → Nat → Prop} [∀ a b, Decidable (lt a b)] : ∀ (j d : Nat), bst P lt j = some d → d < j ∧ P d := by
  intro j
  induction j with
  | zero => intro d h; cases h
  | succ j ih =>
    intro d h
    unfold bst at h
    split at h
    · split at h
      · cases h; exact ⟨by omega, by assumption⟩
      · cases h
    · rename_i x hx
      split at h
      · cases h; rename_i hp; exact ⟨by omega, hp.1⟩
      · cases h; have := ih d hx; exact ⟨by omega, this.2⟩
theorem bst_eq {P : Nat → Prop} [DecidablePred P] {lt : Nat → Nat → Prop} [∀ a b, Decidable (lt a b)] {h : Nat} (hP : P h) : ∀ (n : Nat), h < n → (∀ e, e < n → P e → e ≠ h → lt h e ∧ ¬ lt e h) → bst P lt n = some h := by
  intro n
  induction n with
  | zero => intro h1; omega
  | succ n ih =>
    intro h1 h2
    by_cases hn : h = n
    · subst hn
      unfold bst
      cases hb : bst P lt h with
      | none => simp [hP]
      | some d =>
        have hd := bst_in _ _ hb
        have := h2 d (by omega) hd.2 (by omega)
        simp [hP, this.1]
    · have hb := ih (by omega) (fun e he => h2 e (by omega))
      unfold bst
      rw [hb]
      have : ¬ (P n ∧ lt n h) := fun z => (h2 n (by omega) z.1 (fun q => hn q.symm)).2 z.2
      simp [this]
theorem bst_none {P : Nat → Prop} [DecidablePred P] {lt : Nat → Nat → Prop} [∀ a b, Decidable (lt a b)] : ∀ (n : Nat), (∀ e, e < n → ¬ P e) → bst P lt n = none := by
  intro n
  induction n with
  | zero => intro _; rfl
  | succ n ih =>
    intro h
    unfold bst
    rw [ih (fun e he => h e (by omega))]
    simp [h n (by omega)]
def oI (o : Option Nat) : Int32 := match o with
  | none => -1
  | some e => nI e
theorem nI_m1 {e : Nat} (h : e < 2 ^ 31) : ¬ nI e = -1 := fun z => by
  have := nI_pos' h
  rw [z] at this
  exact absurd this (by decide)
/-- sums of weights below j -/
def wS (wt : Nat → Int32) (l : List Nat) : Nat → Int32
  | 0 => 0
  | j + 1 => wS wt l j + (if j ∈ l then wt j else 0)
theorem wS_congr {wt : Nat → Int32} {l k : List Nat} : ∀ j, (∀ e, e < j → (e ∈ l ↔ e ∈ k)) → wS wt l j = wS wt k j := by
  intro j
  induction j with
  | zero => intro _; rfl
  | succ j ih =>
    intro h
    unfold wS
    rw [ih (fun e he => h e (by omega))]
    by_cases hj : j ∈ l
    · rw [if_pos hj, if_pos ((h j (by omega)).mp hj)]
    · rw [if_neg hj, if_neg (fun z => hj ((h j (by omega)).mpr z))]
theorem sw_erase (wt : Nat → Int32) (l : List Nat) {e : Nat} (h : e ∈ l) : sw wt l = sw wt (l.erase e) + wt e := by
  induction l with
  | nil => cases h
  | cons a l ih =>
    by_cases ha : a = e
    · subst ha
      rw [List.erase_cons_head]; simp only [sw]; rw [Int32.add_comm]
    · have h2 : e ∈ l := by
        rcases List.mem_cons.mp h with z | z
        · exact absurd z.symm ha
        · exact z
      rw [List.erase_cons_tail (by simpa using ha)]
      simp only [sw]
      rw [ih h2, Int32.add_assoc]
theorem wS_sw {wt : Nat → Int32} : ∀ (n : Nat) (l : List Nat), l.Nodup → (∀ e ∈ l, e < n) → wS wt l n = sw wt l := by
  intro n
  induction n with
  | zero =>
    intro l _ h
    cases l with
    | nil => rfl
    | cons a l => exact absurd (h a List.mem_cons_self) (by omega)
  | succ n ih =>
    intro l hl h
    unfold wS
    by_cases hn : n ∈ l
    · rw [if_pos hn, sw_erase wt l hn, ← ih (l.erase n) (hl.erase n) (fun e he => by
        have h2 := h e (List.mem_of_mem_erase he)
        have h3 : e ≠ n := fun z => (List.Nodup.not_mem_erase hl) (z ▸ he)
        omega)]
      congr 1
      refine wS_congr n (fun e he => ?_)
      exact (List.mem_erase_of_ne (by omega)).symm
    · rw [if_neg hn, Int32.add_zero]
      refine ih l hl (fun e he => ?_)
      have h2 := h e he
      have h3 : e ≠ n := fun z => hn (z ▸ he)
      omega
def RR (s : RS) (n : Nat) (L : Nat → List Nat) (B : Nat) : Prop :=
  gi s 10 = nI n ∧ n ≤ 600 ∧ (∀ e, e < n → ∃ r, r ≤ 3 ∧ ga s 15 e = nI r ∧ ∀ q, in3 q → (e ∈ L q ↔ q = r)) ∧ (∀ r, in3 r → ∀ e ∈ L r, e < n) ∧ (∀ r, in3 r → (L r).Nodup) ∧
  ∃ (st : Nat → Nat) (t : Nat), gl s 22 = lN t ∧ t + B < 2 ^ 31 ∧ (∀ r, in3 r → ∀ e ∈ L r, gb s 19 e = lN (st e) ∧ st e ≤ t) ∧ ∀ r, in3 r → (L r).Pairwise (fun d e => st d < st e)
/-- what the moves leave alone -/
def RM (s s' : RS) : Prop := (∀ k, gi s' k = gi s k) ∧ (∀ k, k ≠ 15 → k ≠ 21 → ∀ j, ga s' k j = ga s k j) ∧ (∀ k, k ≠ 22 → gl s' k = gl s k) ∧ ∀ k, k ≠ 19 → ∀ j, gb s' k j = gb s k j
theorem RM.rf {s : RS} : RM s s := ⟨fun _ => rfl, fun _ _ _ _ => rfl, fun _ _ => rfl, fun _ _ _ => rfl⟩
theorem RM.trans {s s1 s2 : RS} (h : RM s s1) (h' : RM s1 s2) : RM s s2 := ⟨fun k => (h'.1 k).trans (h.1 k), fun k hk hk' j => (h'.2.1 k hk hk' j).trans (h.2.1 k hk hk' j), fun k hk => (h'.2.2.1 k hk).trans (h.2.2.1 k hk), fun k hk j => (h'.2.2.2 k hk j).trans (h.2.2.2 k hk j)⟩
section RR
variable {b : Hp} {m : Nat} {s : RS} {n : Nat} {L : Nat → List Nat} {B N : Nat}
theorem RR.le {B' : Nat} (h : RR s n L B) (hB : B' ≤ B) : RR s n L B' := by
  obtain ⟨h1, h2, h3, h4, h5, st, t, h6, h7, h8, h9⟩ := h
  exact ⟨h1, h2, h3, h4, h5, st, t, h6, by omega, h8, h9⟩
theorem RR.room (h : RR s n L B) {e r : Nat} (he : e < n) (hr : in3 r) : ga s 15 e = nI r ↔ e ∈ L r := by
  obtain ⟨q, hq, h1, h2⟩ := h.2.2.1 e he
  rw [h1, nI_eq (by omega) (by have := hr.2; omega), h2 r hr]
  exact eq_comm
theorem RR.room0 (h : RR s n L B) {e : Nat} (he : e < n) : ga s 15 e = 0 ↔ ∀ r, in3 r → e ∉ L r := by
  obtain ⟨q, hq, h1, h2⟩ := h.2.2.1 e he
  rw [h1, ← nI_0, nI_eq (by omega) (by omega)]
  constructor
  · intro z r hr hm
    have := (h2 r hr).mp hm
    have := hr.1
    omega
  · intro z
    rcases Nat.eq_zero_or_pos q with hz | hz
    · exact hz
    · exact absurd ((h2 q ⟨hz, hq⟩).mpr rfl) (z q ⟨hz, hq⟩)
theorem RR.inq (h : RR s n L B) {e : Nat} (he : e < n) : ga s 15 e = 0 ∨ ∃ q, in3 q ∧ ga s 15 e = nI q ∧ e ∈ L q := by
  obtain ⟨q, hq, h1, h2⟩ := h.2.2.1 e he
  rcases Nat.eq_zero_or_pos q with hz | hz
  · subst hz; exact Or.inl h1
  · exact Or.inr ⟨q, ⟨hz, hq⟩, h1, (h2 q ⟨hz, hq⟩).mpr rfl⟩
theorem RR.one (h : RR s n L B) {e r q : Nat} (hr : in3 r) (hq : in3 q) (h1 : e ∈ L r) (h2 : e ∈ L q) : r = q := by
  obtain ⟨x, hx, -, h4⟩ := h.2.2.1 e (h.2.2.2.1 r hr e h1)
  rw [(h4 r hr).mp h1, (h4 q hq).mp h2]
theorem RR.len (h : RR s n L B) {r : Nat} (hr : in3 r) : (L r).length ≤ n := nd_len n (L r) (h.2.2.2.2.1 r hr) (h.2.2.2.1 r hr)
theorem weight_loop (hb : hp_C b m = some 11) (h : RR s n L B) {r : Nat} (hr : in3 r) : ∀ (i j : Nat), j ≤ n → n - j < i → f_M_weightOf_4 N i (some m) (nI r) (wS (ga s 13) (L r) j) (nI j) (rh b m s) = some (wS (ga s 13) (L r) n, rh b m s) := by
  have h600 := h.2.1
  intro i
  induction i with
  | zero => intro j _ hi; omega
  | succ i ih =>
    intro j hj hi
    by_cases hjn : j = n
    · subst hjn
      have : nI j ≤ nI j := Int32.le_refl _
      simp [f_M_weightOf_4, ldIr hb, h.1, this]
    · have hlt : ¬ nI n ≤ nI j := nI_ge (by omega) (by omega)
      have hij : ix_ (nI j) 1100 = some j := ixN (by omega) (by omega)
      have := ih (j + 1) (by omega) (by omega)
      rw [← nI_1] at this
      by_cases hrm : j ∈ L r
      · have hg := (h.room (by omega) hr).mpr hrm
        simp only [wS, if_pos hrm] at this
        simp [f_M_weightOf_4, f_M_weightOf_33, ldIr hb, ldRr hb, h.1, hlt, al15, al13, hij, hg, this]
      · have hg : ¬ ga s 15 j = nI r := fun z => hrm ((h.room (by omega) hr).mp z)
        simp only [wS, if_neg hrm] at this
        simp [f_M_weightOf_4, f_M_weightOf_33, ldIr hb, ldRr hb, h.1, hlt, al15, al13, hij, hg]
        simpa using this
theorem RR.weight (hb : hp_C b m = some 11) (h : RR s n L B) {r : Nat} (hr : in3 r) (hN : 1000 ≤ N) : f_M_weightOf N (some m) (nI r) (rh b m s) = some (sw (ga s 13) (L r), rh b m s) := by
  have h600 := h.2.1
  have := weight_loop (N := N) hb h hr N 0 (by omega) (by omega)
  rw [nI_0] at this
  unfold f_M_weightOf
  rw [show (0 : Int32) = wS (ga s 13) (L r) 0 from rfl] at *
  rw [this, wS_sw n (L r) (h.2.2.2.2.1 r hr) (h.2.2.2.1 r hr)]
theorem lgc_ge {x y : Int64} : (0 ≤ lg_cmp x y) ↔ y ≤ x := by
  unfold lg_cmp
  by_cases h1 : x > y
  · rw [if_pos h1]; exact ⟨fun _ => Int64.le_of_lt h1, fun _ => by decide⟩
  · rw [if_neg h1]
    by_cases h2 : x = y
    · subst h2; rw [if_pos rfl]; exact ⟨fun _ => Int64.le_refl _, fun _ => by decide⟩
    · rw [if_neg h2]
      refine ⟨fun z => absurd z (by decide), fun z => absurd (Int64.le_antisymm (Int64.not_lt.mp h1) z) h2⟩
theorem earliest_loop (hb : hp_C b m = some 11) (h : RR s n L B) {r : Nat} (hr : in3 r) {st : Nat → Nat} (hst : ∀ e ∈ L r, gb s 19 e = lN (st e) ∧ st e < 2 ^ 31) : ∀ (i j : Nat), j ≤ n → n - j < i → f_M_earliest_4 N i (some m) (nI r) (oI (bst (fun e => e ∈ L r) (fun a b => st a < st b) j)) (nI j) (rh b m s) = some (oI (bst (fun e => e ∈ L r) (fun a b => st a < st b) n), rh b m s) := by
  have h600 := h.2.1
  intro i
  induction i with
  | zero => intro j _ hi; omega
  | succ i ih =>
    intro j hj hi
    by_cases hjn : j = n
    · subst hjn
      have : nI j ≤ nI j := Int32.le_refl _
      simp [f_M_earliest_4, ldIr hb, h.1, this]
    · have hlt : ¬ nI n ≤ nI j := nI_ge (by omega) (by omega)
      have hij : ix_ (nI j) 1100 = some j := ixN (by omega) (by omega)
      have := ih (j + 1) (by omega) (by omega)
      rw [← nI_1] at this
      by_cases hrm : j ∈ L r
      · have hg := (h.room (by omega) hr).mpr hrm
        cases hbj : bst (fun e => e ∈ L r) (fun a b => st a < st b) j with
        | none =>
          simp only [bst, hbj, hrm, if_true, oI] at this
          simp [f_M_earliest_4, f_M_earliest_43, f_M_earliest_45, ldIr hb, ldRr hb, h.1, hlt, al15, al19, hij, hg, oI, this]
        | some d =>
          obtain ⟨hd1, hd2⟩ := bst_in _ _ hbj
          have hd : ix_ (nI d) 1100 = some d := ixN (by omega) (by omega)
          have hm1 : ¬ nI d = -1 := nI_m1 (by omega)
          have e1 := hst j hrm
          have e2 := hst d hd2
          by_cases hlt2 : st j < st d
          · have hc : ¬ lN (st d) ≤ lN (st j) := fun z => by
              rw [lN_le e2.2 e1.2] at z; omega
            simp only [bst, hbj, hrm, true_and, hlt2, if_true, oI] at this
            simp [f_M_earliest_4, f_M_earliest_43, f_M_earliest_45, ldIr hb, ldRr hb, h.1, hlt, al15, al19, hij, hg, oI, hm1, hd, e1.1, e2.1, lgc_ge, hc, this]
          · have hc : lN (st d) ≤ lN (st j) := by
              rw [lN_le e2.2 e1.2]; omega
            simp only [bst, hbj, hrm, true_and, hlt2, if_false, oI] at this
            simp [f_M_earliest_4, f_M_earliest_43, f_M_earliest_45, ldIr hb, ldRr hb, h.1, hlt, al15, al19, hij, hg, oI, hm1, hd, e1.1, e2.1, lgc_ge, hc, this]
      · have hg : ¬ ga s 15 j = nI r := fun z => hrm ((h.room (by omega) hr).mp z)
        have hbj : bst (fun e => e ∈ L r) (fun a b => st a < st b) (j + 1) = bst (fun e => e ∈ L r) (fun a b => st a < st b) j := by
          rw [bst]
          cases bst (fun e => e ∈ L r) (fun a b => st a < st b) j <;> simp [hrm]
        rw [hbj] at this
        simp [f_M_earliest_4, f_M_earliest_43, f_M_earliest_45, ldIr hb, ldRr hb, h.1, hlt, al15, hij, hg, this]
theorem RR.earliest (hb : hp_C b m = some 11) (h : RR s n L B) {r : Nat} (hr : in3 r) (hN : 1000 ≤ N) : f_M_earliest N (some m) (nI r) (rh b m s) = some (oI (L r).head?, rh b m s) := by
  have h600 := h.2.1
  obtain ⟨st, t, h6, h7, h8, h9⟩ := h.2.2.2.2.2
  have := earliest_loop (N := N) hb h hr (st := st) (fun e he => ⟨(h8 r hr e he).1, by have := (h8 r hr e he).2; omega⟩) N 0 (by omega) (by omega)
  rw [nI_0] at this
  unfold f_M_earliest
  rw [show (-1 : Int32) = oI (bst (fun e => e ∈ L r) (fun a b => st a < st b) 0) from rfl, this]
  congr 3
  cases hl : L r with
  | nil => exact bst_none n (fun e _ => by simp)
  | cons e l =>
    have hp := h9 r hr
    rw [hl] at hp
    refine bst_eq (h := e) (by simp) n (h.2.2.2.1 r hr e (by rw [hl]; simp)) (fun d _ hd hde => ?_)
    rcases List.mem_cons.mp hd with z | z
    · exact absurd z hde
    · have := (List.pairwise_cons.mp hp).1 d z
      exact ⟨this, by omega⟩
/-- latest(e, r) -/
def latS (s : RS) (e : Nat) (r : Int32) : RS := ub (ul (ua s 15 e r) 22 (gl s 22 + 1)) 19 e (gl s 22 + 1)
theorem lat_run (hb : hp_C b m = some 11) {e : Nat} (he : e < 1100) {r : Int32} : f_M_latest (some m) (nI e) r (rh b m s) = some (rh b m (latS s e r)) := by
  have hi : ix_ (nI e) 1100 = some e := ixN he (by omega)
  simp [f_M_latest, ldRr hb, ldLr hb, stLr hb, as15, as19, hi, latS, giui, giul, giua, giub, glui, glul, glua, glub, gaui, gaul, gaua, gaub, gbui, gbul, gbua, gbub]
theorem lat_RM {e : Nat} {r : Int32} : RM s (latS s e r) := by
  refine ⟨fun k => rfl, fun k hk _ j => ?_, fun k hk => ?_, fun k hk j => ?_⟩
  · simp [latS, giui, giul, giua, giub, glui, glul, glua, glub, gaui, gaul, gaua, gaub, gbui, gbul, gbua, gbub, hk]
  · simp [latS, giui, giul, giua, giub, glui, glul, glua, glub, gaui, gaul, gaua, gaub, gbui, gbul, gbua, gbub, hk]
  · simp [latS, giui, giul, giua, giub, glui, glul, glua, glub, gaui, gaul, gaua, gaub, gbui, gbul, gbua, gbub, hk]
theorem RR.lat (h : RR s n L (B + 1)) {e r : Nat} (he : e < n) (hr : in3 r) {L' : Nat → List Nat} (hL' : ∀ x, in3 x → L' x = if x = r then (L x).erase e ++ [e] else (L x).erase e) : RR (latS s e (nI r)) n L' B := by
  obtain ⟨h1, h2, h3, h4, h5, st, t, h6, h7, h8, h9⟩ := h
  have hmem : ∀ x, in3 x → ∀ d, d ∈ L' x ↔ (d ≠ e ∧ d ∈ L x) ∨ (d = e ∧ x = r) := by
    intro x hx d
    rw [hL' x hx]
    by_cases hxr : x = r
    · rw [if_pos hxr, List.mem_append, (h5 x hx).mem_erase_iff]
      simp [hxr]
    · rw [if_neg hxr, (h5 x hx).mem_erase_iff]
      simp [hxr]
  refine ⟨h1, h2, fun d hd => ?_, fun x hx d hd => ?_, fun x hx => ?_, fun d => if d = e then t + 1 else st d, t + 1, ?_, by omega, fun x hx d hd => ?_, fun x hx => ?_⟩
  · by_cases hde : d = e
    · subst hde
      refine ⟨r, hr.2, by simp [latS, giui, giul, giua, giub, glui, glul, glua, glub, gaui, gaul, gaua, gaub, gbui, gbul, gbua, gbub], fun q hq => ?_⟩
      rw [hmem q hq]; simp
    · obtain ⟨q, g1, g2, g3⟩ := h3 d hd
      refine ⟨q, g1, by simp [latS, giui, giul, giua, giub, glui, glul, glua, glub, gaui, gaul, gaua, gaub, gbui, gbul, gbua, gbub, hde, g2], fun x hx => ?_⟩
      rw [hmem x hx, ← g3 x hx]; simp [hde]
  · rcases (hmem x hx d).mp hd with z | z
    · exact h4 x hx d z.2
    · rw [z.1]; exact he
  · rw [hL' x hx]
    split
    · refine List.nodup_append.mpr ⟨(h5 x hx).erase e, by simp, fun a ha c hc z => ?_⟩
      have : c = e := by simpa using hc
      subst this; subst z
      exact (List.Nodup.not_mem_erase (h5 x hx)) ha
    · exact (h5 x hx).erase e
  · simp [latS, giui, giul, giua, giub, glui, glul, glua, glub, gaui, gaul, gaua, gaub, gbui, gbul, gbua, gbub, h6, lN_1]
  · by_cases hde : d = e
    · subst hde
      simp [latS, giui, giul, giua, giub, glui, glul, glua, glub, gaui, gaul, gaua, gaub, gbui, gbul, gbua, gbub, h6, lN_1]
    · rcases (hmem x hx d).mp hd with z | z
      · have := h8 x hx d z.2
        simp only [hde, if_false]
        refine ⟨?_, by omega⟩
        simp [latS, giui, giul, giua, giub, glui, glul, glua, glub, gaui, gaul, gaua, gaub, gbui, gbul, gbua, gbub, hde, this.1]
      · exact absurd z.1 hde
  · have hP : ∀ l : List Nat, l.Pairwise (fun d e => st d < st e) → l.Nodup → (l.erase e).Pairwise (fun a c => (if a = e then t + 1 else st a) < (if c = e then t + 1 else st c)) := by
      intro l hl hn
      have h10 : (l.erase e).Pairwise (fun d e => st d < st e) := hl.sublist List.erase_sublist
      refine h10.imp_of_mem (fun {a c} ha hc hac => ?_)
      have ha' : a ≠ e := fun z => (List.Nodup.not_mem_erase hn) (z ▸ ha)
      have hc' : c ≠ e := fun z => (List.Nodup.not_mem_erase hn) (z ▸ hc)
      rw [if_neg ha', if_neg hc']; exact hac
    rw [hL' x hx]
    split
    · refine List.pairwise_append.mpr ⟨hP _ (h9 x hx) (h5 x hx), by simp, fun a ha c hc => ?_⟩
      have hce : c = e := by simpa using hc
      subst hce
      have ha' : a ≠ c := fun z => (List.Nodup.not_mem_erase (h5 x hx)) (z ▸ ha)
      have := (h8 x hx a (List.mem_of_mem_erase ha)).2
      simp only [ha', if_false, if_true]
      omega
    · exact hP _ (h9 x hx) (h5 x hx)
theorem erase_no {e : Nat} {l : List Nat} (h : e ∉ l) : l.erase e = l := List.erase_of_not_mem h
theorem RR.mv (h : RR s n L (B + 1)) {e q r : Nat} (hq : in3 q) (hr : in3 r) (he : e ∈ L q) : RR (latS s e (nI r)) n (mv L e q r) B := by
  refine h.lat (h.2.2.2.1 q hq e he) hr (fun x hx => ?_)
  unfold Jvm.Pilot.CWindowCacheLaw_law_r6654_07e9e3.mv
  by_cases hxr : x = r
  · subst hxr
    rw [upL_s, if_pos rfl]
    by_cases hxq : x = q
    · subst hxq; rw [upL_s]
    · rw [upL_n hxq, erase_no (fun z => hxq (h.one hx hq z he))]
  · rw [upL_n hxr, if_neg hxr]
    by_cases hxq : x = q
    · subst hxq; rw [upL_s]
    · rw [upL_n hxq, erase_no (fun z => hxq (h.one hx hq z he))]
theorem RR.add (h : RR s n L (B + 1)) {e r : Nat} (he : e < n) (hr : in3 r) (hno : ∀ q, in3 q → e ∉ L q) : RR (latS s e (nI r)) n (upL L r (L r ++ [e])) B := by
  refine h.lat he hr (fun x hx => ?_)
  rw [erase_no (hno x hx)]
  by_cases hxr : x = r
  · subst hxr; rw [upL_s, if_pos rfl]
  · rw [upL_n hxr, if_neg hxr]
/-- room[e] = 0 -/
theorem RR.out (h : RR s n L B) {e : Nat} (he : e < n) {L' : Nat → List Nat} (hL' : ∀ x, in3 x → L' x = (L x).erase e) : RR (ua s 15 e 0) n L' B := by
  obtain ⟨h1, h2, h3, h4, h5, st, t, h6, h7, h8, h9⟩ := h
  have hmem : ∀ x, in3 x → ∀ d, d ∈ L' x ↔ d ≠ e ∧ d ∈ L x := by
    intro x hx d
    rw [hL' x hx, (h5 x hx).mem_erase_iff]
  refine ⟨h1, h2, fun d hd => ?_, fun x hx d hd => h4 x hx d ((hmem x hx d).mp hd).2, fun x hx => by rw [hL' x hx]; exact (h5 x hx).erase e, st, t, h6, h7, fun x hx d hd => h8 x hx d ((hmem x hx d).mp hd).2, fun x hx => by rw [hL' x hx]; exact (h9 x hx).sublist List.erase_sublist⟩
  by_cases hde : d = e
  · subst hde
    refine ⟨0, by omega, by simp [giui, giul, giua, giub, glui, glul, glua, glub, gaui, gaul, gaua, gaub, gbui, gbul, gbua, gbub, nI_0], fun q hq => ?_⟩
    rw [hmem q hq]
    have := hq.1
    constructor
    · intro z; exact absurd rfl z.1
    · intro z; omega
  · obtain ⟨q, g1, g2, g3⟩ := h3 d hd
    refine ⟨q, g1, by simp [giui, giul, giua, giub, glui, glul, glua, glub, gaui, gaul, gaua, gaub, gbui, gbul, gbua, gbub, hde, g2], fun x hx => ?_⟩
    rw [hmem x hx, ← g3 x hx]; simp [hde]
theorem RR.outq (h : RR s n L B) {e q : Nat} (hq : in3 q) (he : e ∈ L q) : RR (ua s 15 e 0) n (upL L q ((L q).erase e)) B := by
  refine h.out (h.2.2.2.1 q hq e he) (fun x hx => ?_)
  by_cases hxq : x = q
  · subst hxq; rw [upL_s]
  · rw [upL_n hxq, erase_no (fun z => hxq (h.one hx hq z he))]
def limR (s : RS) : Int32 := (gi s 1 - gi s 32) * 4 / 5
theorem RM.wt {s s' : RS} (h : RM s s') : ga s' 13 = ga s 13 := funext (h.2.1 13 (by decide) (by decide))
theorem lower_loop (hb : hp_C b m = some 11) (hN : 1000 ≤ N) (lim : Int32) (hlim : 0 ≤ lim) : ∀ (i k : Nat) (s : RS) (L : Nat → List Nat), RR s n L (B + k) → limR s = lim → k = (L 3).length → k < i → ∃ s', f_M_lower_0 N i (some m) (rh b m s) = some (rh b m s') ∧ RR s' n (trimL (ga s 13) lim k L) B ∧ RM s s' := by
  intro i
  induction i with
  | zero => intro k s L h _ hk hi; omega
  | succ i ih =>
    intro k s L h hl hk hi
    have h600 := h.2.1
    have hw := h.weight hb i3 hN
    rw [show nI 3 = 3 from rfl] at hw
    have hl' : (gi s 1 - gi s 32) * 4 / 5 = lim := hl
    cases k with
    | zero =>
      have h3 : L 3 = [] := List.length_eq_zero_iff.mp hk.symm
      refine ⟨s, ?_, h, RM.rf⟩
      rw [h3] at hw
      simp [f_M_lower_0, isOr hb, hw, pb, ldIr hb, hl', sw, hlim]
    | succ k =>
      cases h3 : L 3 with
      | nil => rw [h3] at hk; cases hk
      | cons e l =>
        by_cases hwl : sw (ga s 13) (L 3) ≤ lim
        · refine ⟨s, ?_, ?_, RM.rf⟩
          · simp [f_M_lower_0, isOr hb, hw, pb, ldIr hb, hl', hwl]
          · have : trimL (ga s 13) lim (k + 1) L = L := by simp only [trimL, h3]; rw [h3] at hwl; rw [if_pos hwl]
            rw [this]; exact h.le (by omega)
        · have he : e ∈ L 3 := by rw [h3]; simp
          have hen := h.2.2.2.1 3 i3 e he
          have hE := h.earliest hb i3 hN
          rw [h3, show nI 3 = 3 from rfl] at hE
          have h' : RR (latS s e 2) n (mv L e 3 2) (B + k) := RR.mv (B := B + k) (by rw [Nat.add_assoc]; exact h) i3 i2 he
          obtain ⟨s', f1, r1, m1⟩ := ih k (latS s e 2) (mv L e 3 2) h' (by rw [← hl]; rfl) (by rw [mv_len h3 (by decide)]; rw [h3] at hk; simpa using hk) (by omega)
          refine ⟨s', ?_, ?_, lat_RM.trans m1⟩
          · have hL := lat_run (b := b) (m := m) (s := s) hb (e := e) (by omega) (r := 2)
            simp [f_M_lower_0, isOr hb, hw, pb, ldIr hb, hl', hwl, hE, oI, hL, f1]
          · have : trimL (ga s 13) lim (k + 1) L = trimL (ga s 13) lim k (mv L e 3 2) := by simp only [trimL, h3]; rw [h3] at hwl; rw [if_neg hwl]
            rw [this]
            rw [(lat_RM (s := s) (e := e) (r := 2)).wt] at r1
            exact r1
theorem lower_0 {i : Nat} : f_M_lower (i + 1) (some m) (rh b m s) = f_M_lower_0 (i + 1) (i + 2) (some m) (rh b m s) := rfl
theorem RR.lower (hb : hp_C b m = some 11) (h : RR s n L (B + 600)) (hN : 1000 ≤ N) (hlim : 0 ≤ limR s) : ∃ s', f_M_lower N (some m) (rh b m s) = some (rh b m s') ∧ RR s' n (trimL (ga s 13) (limR s) (L 3).length L) B ∧ RM s s' := by
  have h600 := h.2.1
  have hl := h.len i3
  obtain ⟨s', f1, r1, m1⟩ := lower_loop (B := B) hb hN (limR s) hlim (N + 1) (L 3).length s L (h.le (by omega)) rfl rfl (by omega)
  refine ⟨s', ?_, r1, m1⟩
  cases N with
  | zero => omega
  | succ N => rw [lower_0]; exact f1
theorem RR.touched (hb : hp_C b m = some 11) (h : RR s n L (B + 601)) {e q : Nat} (hq : in3 q) (he : e ∈ L q) (hN : 1000 ≤ N) (hlim : 0 ≤ limR s) : ∃ s', f_M_touched N (some m) (nI e) (rh b m s) = some (rh b m s') ∧ RR s' n (touchL (ga s 13) (limR s) e q L) B ∧ RM s s' := by
  have h600 := h.2.1
  have hen := h.2.2.2.1 q hq e he
  have ht : in3 (tq q) := by
    unfold tq; split
    · exact i3
    · exact hq
  have h' : RR (latS s e (nI (tq q))) n (Jvm.Pilot.CWindowCacheLaw_law_r6654_07e9e3.mv L e q (tq q)) (B + 600) := RR.mv (B := B + 600) h hq ht he
  obtain ⟨s', f1, r1, m1⟩ := RR.lower hb h' hN (by exact hlim)
  refine ⟨s', ?_, ?_, lat_RM.trans m1⟩
  · have hL := lat_run (b := b) (m := m) (s := s) hb (e := e) (by omega) (r := nI (tq q))
    have hi : ix_ (nI e) 1100 = some e := ixN (by omega) (by omega)
    have hroom := (h.room hen hq).mpr he
    rcases in3_or hq with rfl | rfl | rfl
    · rw [show nI (tq 1) = 1 from rfl] at hL f1
      rw [show nI 1 = 1 from rfl] at hroom
      simp [f_M_touched, f_M_touched_17, ldRr hb, al15, hi, hroom, isOr hb, hL, f1]
    · rw [show nI (tq 2) = 3 from rfl] at hL f1
      rw [show nI 2 = 2 from rfl] at hroom
      simp [f_M_touched, f_M_touched_17, ldRr hb, al15, hi, hroom, isOr hb, hL, f1]
    · rw [show nI (tq 3) = 3 from rfl] at hL f1
      rw [show nI 3 = 3 from rfl] at hroom
      simp [f_M_touched, f_M_touched_17, ldRr hb, al15, hi, hroom, isOr hb, hL, f1]
  · rw [(lat_RM (s := s) (e := e) (r := nI (tq q))).wt] at r1
    exact r1
end RR
