/-! THE REFERENCE's WORLD in one form: rh b m s lies over b; s: int fields, long fields, int and boolean arrays, long arrays, all by the fields' numbers -/
abbrev RS : Type := (Nat → Int32) × (Nat → Int64) × (Nat → Nat → Int32) × (Nat → Nat → Int64)
def gi (s : RS) (k : Nat) : Int32 := s.1 k
def gl (s : RS) (k : Nat) : Int64 := s.2.1 k
def ga (s : RS) (k j : Nat) : Int32 := s.2.2.1 k j
def gb (s : RS) (k j : Nat) : Int64 := s.2.2.2 k j
def ui (s : RS) (k : Nat) (x : Int32) : RS := (fun i => if i = k then x else s.1 i, s.2)
def ul (s : RS) (k : Nat) (x : Int64) : RS := (s.1, fun i => if i = k then x else s.2.1 i, s.2.2)
def ua (s : RS) (k j : Nat) (x : Int32) : RS := (s.1, s.2.1, fun c i => if c = k ∧ i = j then x else s.2.2.1 c i, s.2.2.2)
def ub (s : RS) (k j : Nat) (x : Int64) : RS := (s.1, s.2.1, s.2.2.1, fun c i => if c = k ∧ i = j then x else s.2.2.2 c i)
theorem giui {s : RS} {k c : Nat} {x : Int32} : gi (ui s k x) c = if c = k then x else gi s c := rfl
theorem giul {s : RS} {k c : Nat} {x : Int64} : gi (ul s k x) c = gi s c := rfl
theorem giua {s : RS} {k j c : Nat} {x : Int32} : gi (ua s k j x) c = gi s c := rfl
theorem giub {s : RS} {k j c : Nat} {x : Int64} : gi (ub s k j x) c = gi s c := rfl
theorem glui {s : RS} {k c : Nat} {x : Int32} : gl (ui s k x) c = gl s c := rfl
theorem glul {s : RS} {k c : Nat} {x : Int64} : gl (ul s k x) c = if c = k then x else gl s c := rfl
theorem glua {s : RS} {k j c : Nat} {x : Int32} : gl (ua s k j x) c = gl s c := rfl
theorem glub {s : RS} {k j c : Nat} {x : Int64} : gl (ub s k j x) c = gl s c := rfl
theorem gaui {s : RS} {k c i : Nat} {x : Int32} : ga (ui s k x) c i = ga s c i := rfl
theorem gaul {s : RS} {k c i : Nat} {x : Int64} : ga (ul s k x) c i = ga s c i := rfl
theorem gaua {s : RS} {k j c i : Nat} {x : Int32} : ga (ua s k j x) c i = if c = k ∧ i = j then x else ga s c i := rfl
theorem gaub {s : RS} {k j c i : Nat} {x : Int64} : ga (ub s k j x) c i = ga s c i := rfl
theorem gbui {s : RS} {k c i : Nat} {x : Int32} : gb (ui s k x) c i = gb s c i := rfl
theorem gbul {s : RS} {k c i : Nat} {x : Int64} : gb (ul s k x) c i = gb s c i := rfl
theorem gbua {s : RS} {k j c i : Nat} {x : Int32} : gb (ua s k j x) c i = gb s c i := rfl
theorem gbub {s : RS} {k j c i : Nat} {x : Int64} : gb (ub s k j x) c i = if c = k ∧ i = j then x else gb s c i := rfl
def rpos (k : Nat) : Nat := match k with
  | 6 => 0
  | 7 => 1
  | 8 => 2
  | 9 => 3
  | 11 => 4
  | 12 => 5
  | 13 => 6
  | 14 => 7
  | 15 => 8
  | 16 => 9
  | 17 => 10
  | 18 => 11
  | 19 => 12
  | 20 => 13
  | 21 => 14
  | 23 => 15
  | 24 => 16
  | 25 => 17
  | 26 => 18
  | 30 => 19
  | 31 => 20
  | 46 => 21
  | 47 => 22
  | 48 => 23
  | _ => 24
def ra (m k : Nat) : Nat := m + 1 + rpos k
def rcell (s : RS) (p : Nat) : Option (Nat × vp_A) := match p with
  | 0 => some (0, 1000, .inl (ga s 6))
  | 1 => some (0, 1000, .inl (ga s 7))
  | 2 => some (0, 1000, .inl (ga s 8))
  | 3 => some (0, 1000, .inl (ga s 9))
  | 4 => some (0, 1100, .inl (ga s 11))
  | 5 => some (0, 1100, .inl (ga s 12))
  | 6 => some (0, 1100, .inl (ga s 13))
  | 7 => some (0, 1100, .inl (ga s 14))
  | 8 => some (0, 1100, .inl (ga s 15))
  | 9 => some (0, 1100, .inl (ga s 16))
  | 10 => some (1, 1100, .inr (.inl (gb s 17)))
  | 11 => some (1, 1100, .inr (.inl (gb s 18)))
  | 12 => some (1, 1100, .inr (.inl (gb s 19)))
  | 13 => some (2, 1100, .inl (ga s 20))
  | 14 => some (2, 1100, .inl (ga s 21))
  | 15 => some (0, 32, .inl (ga s 23))
  | 16 => some (0, 2, .inl (ga s 24))
  | 17 => some (0, 8, .inl (ga s 25))
  | 18 => some (0, 8, .inl (ga s 26))
  | 19 => some (0, 32768, .inl (ga s 30))
  | 20 => some (0, 4, .inl (ga s 31))
  | 21 => some (0, 500, .inl (ga s 46))
  | 22 => some (0, 500, .inl (ga s 47))
  | 23 => some (0, 500, .inl (ga s 48))
  | _ => none
def rr (m k : Nat) : Option Nat := if rpos k = 24 then none else some (ra m k)
def rh (b : Hp) (m : Nat) (s : RS) : Hp := (b.1, fun c k a => if c = 11 ∧ a = m then gi s k else b.2.1 c k a, fun c k a => if c = 11 ∧ a = m then gl s k else b.2.2.1 c k a, fun c k a => if c = 11 ∧ a = m then rr m k else b.2.2.2.1 c k a, fun a => if m < a ∧ a < m + 25 then rcell s (a - (m + 1)) else b.2.2.2.2 a)
section RH
variable {b : Hp} {m : Nat} {s : RS}
theorem rhC {a : Nat} : hp_C (rh b m s) a = hp_C b a := rfl
theorem rhN : hp_N (rh b m s) = hp_N b := rfl
theorem rh_bmp {n : Nat} : bmp n (rh b m s) = rh (bmp n b) m s := rfl
theorem bmpC {n a : Nat} {σ : Hp} : hp_C (bmp n σ) a = hp_C σ a := rfl
theorem rhI {k : Nat} : hp_I (rh b m s) 11 k m = gi s k := by simp [hp_I, rh]
theorem rhL {k : Nat} : hp_L (rh b m s) 11 k m = gl s k := by simp [hp_L, rh]
theorem rhR {k : Nat} : hp_R (rh b m s) 11 k m = rr m k := by simp [hp_R, rh]
theorem isOr (hb : hp_C b m = some 11) : is_O (rh b m s) (some m) 11 = some m := isO hb
theorem ldIr (hb : hp_C b m = some 11) {k : Nat} : ld_I (rh b m s) (some m) 11 k = some (gi s k) := by
  rw [ldI (σ := rh b m s) hb, rhI]
theorem ldLr (hb : hp_C b m = some 11) {k : Nat} : ld_L (rh b m s) (some m) 11 k = some (gl s k) := by
  rw [ldL (σ := rh b m s) hb, rhL]
theorem ldRr (hb : hp_C b m = some 11) {k : Nat} : ld_R (rh b m s) (some m) 11 k = some (rr m k) := by
  rw [ldR (σ := rh b m s) hb, rhR]
theorem rh_ui {k : Nat} {x : Int32} : up_I (rh b m s) 11 k m x = rh b m (ui s k x) := by
  refine Prod.ext rfl (Prod.ext ?_ rfl)
  funext c j a
  simp only [up_I, rh, gi, ui]
  by_cases h1 : c = 11 <;> by_cases h2 : a = m <;> by_cases h3 : j = k <;> simp [h1, h2, h3]
theorem rh_ul {k : Nat} {x : Int64} : up_L (rh b m s) 11 k m x = rh b m (ul s k x) := by
  refine Prod.ext rfl (Prod.ext rfl (Prod.ext ?_ rfl))
  funext c j a
  simp only [up_L, rh, gl, ul]
  by_cases h1 : c = 11 <;> by_cases h2 : a = m <;> by_cases h3 : j = k <;> simp [h1, h2, h3]
theorem stIr (hb : hp_C b m = some 11) {k : Nat} {x : Int32} : st_I (rh b m s) (some m) 11 k x = some (rh b m (ui s k x)) := by
  rw [stI (σ := rh b m s) hb, rh_ui]
theorem stLr (hb : hp_C b m = some 11) {k : Nat} {x : Int64} : st_L (rh b m s) (some m) 11 k x = some (rh b m (ul s k x)) := by
  rw [stL (σ := rh b m s) hb, rh_ul]
theorem stZ0r (hb : hp_C b m = some 11) {k : Nat} : st_Z (rh b m s) (some m) 11 k 0 = some (rh b m (ui s k 0)) := by
  rw [stZ0 (σ := rh b m s) hb, rh_ui]
theorem stZ1r (hb : hp_C b m = some 11) {k : Nat} : st_Z (rh b m s) (some m) 11 k 1 = some (rh b m (ui s k 1)) := by
  rw [stZ1 (σ := rh b m s) hb, rh_ui]
theorem rhA {k : Nat} (hk : rpos k < 24) : hp_A (rh b m s) (ra m k) = rcell s (rpos k) := by
  have h1 : m < ra m k ∧ ra m k < m + 25 := by unfold ra; omega
  have h2 : ra m k - (m + 1) = rpos k := by unfold ra; omega
  show (if m < ra m k ∧ ra m k < m + 25 then rcell s (ra m k - (m + 1)) else _) = _
  rw [if_pos h1, h2]
theorem rh_up {s' : RS} {k : Nat} {x : Nat × vp_A} (hk : rpos k < 24) (h1 : gi s' = gi s) (h2 : gl s' = gl s) (h3 : ∀ p, rcell s' p = if p = rpos k then some x else rcell s p) : up_A (rh b m s) (ra m k) x = rh b m s' := by
  refine Prod.ext rfl (Prod.ext ?_ (Prod.ext ?_ (Prod.ext rfl ?_)))
  · funext c j a
    simp only [up_A, rh]
    rw [h1]
  · funext c j a
    simp only [up_A, rh]
    rw [h2]
  · funext a
    simp only [up_A, rh, h3]
    by_cases h4 : m < a ∧ a < m + 25
    · simp only [h4, if_true, and_self]
      by_cases h5 : a = ra m k
      · have h6 : a - (m + 1) = rpos k := by rw [h5]; unfold ra; omega
        simp [h5, h6] 
        intro h7
        exact absurd h6 (by rw [h5]; exact h7)
      · have h6 : ¬ a - (m + 1) = rpos k := fun z => h5 (by unfold ra; omega)
        simp [h5, h6]
    · have h5 : ¬ a = ra m k := fun z => h4 (by rw [z]; unfold ra; omega)
      simp [h4, h5]
theorem ga_eq {k j : Nat} {x : Int32} : ga (ua s k j x) k = va_up (ga s k) j x := by
  funext i
  rw [gaua]; unfold va_up
  by_cases h : i = j <;> simp [h]
theorem ga_ne {k c j : Nat} {x : Int32} (h : c ≠ k) : ga (ua s k j x) c = ga s c := by
  funext i
  rw [gaua]; simp [h]
theorem gb_eq {k j : Nat} {x : Int64} : gb (ub s k j x) k = va_up (gb s k) j x := by
  funext i
  rw [gbub]; unfold va_up
  by_cases h : i = j <;> simp [h]
theorem gb_ne {k c j : Nat} {x : Int64} (h : c ≠ k) : gb (ub s k j x) c = gb s c := by
  funext i
  rw [gbub]; simp [h]
theorem gb_fa {k c j : Nat} {x : Int32} : gb (ua s k j x) c = gb s c := rfl
theorem ga_fb {k c j : Nat} {x : Int64} : ga (ub s k j x) c = ga s c := rfl
theorem ar6 : ar_I (rh b m s) 0 (rr m 6) = some (ra m 6, 1000, ga s 6) := by
  rw [show rr m 6 = some (ra m 6) from rfl]; unfold ar_I; simp only [rhA (b := b) (m := m) (s := s) (k := 6) (by decide)]; rfl
theorem al6 {i : Int32} : al_I (rh b m s) 0 (rr m 6) i = (ix_ i 1000).map (ga s 6) := by
  unfold al_I; rw [ar6]; rfl
theorem up6 {j : Nat} {x : Int32} : up_A (rh b m s) (ra m 6) (0, 1000, .inl (va_up (ga s 6) j x)) = rh b m (ua s 6 j x) := by
  refine rh_up (by decide) rfl rfl fun p => ?_
  rcases (show p < 24 ∨ 24 ≤ p by omega) with h | h
  · have h' : p ∈ List.range 24 := List.mem_range.mpr h
    revert p
    refine fun p h h' => ?_
    rcases (show p = 0 ∨ p = 1 ∨ p = 2 ∨ p = 3 ∨ p = 4 ∨ p = 5 ∨ p = 6 ∨ p = 7 ∨ p = 8 ∨ p = 9 ∨ p = 10 ∨ p = 11 ∨ p = 12 ∨ p = 13 ∨ p = 14 ∨ p = 15 ∨ p = 16 ∨ p = 17 ∨ p = 18 ∨ p = 19 ∨ p = 20 ∨ p = 21 ∨ p = 22 ∨ p = 23 by omega) with rfl | rfl | rfl | rfl | rfl | rfl | rfl | rfl | rfl | rfl | rfl | rfl | rfl | rfl | rfl | rfl | rfl | rfl | rfl | rfl | rfl | rfl | rfl | rfl
    · show rcell _ 0 = some _; unfold rcell; simp only [ga_eq]
    · show rcell _ 1 = rcell s 1; unfold rcell; simp only [ga_ne (show (7 : Nat) ≠ 6 by decide)]
    · show rcell _ 2 = rcell s 2; unfold rcell; simp only [ga_ne (show (8 : Nat) ≠ 6 by decide)]
    · show rcell _ 3 = rcell s 3; unfold rcell; simp only [ga_ne (show (9 : Nat) ≠ 6 by decide)]
    · show rcell _ 4 = rcell s 4; unfold rcell; simp only [ga_ne (show (11 : Nat) ≠ 6 by decide)]
    · show rcell _ 5 = rcell s 5; unfold rcell; simp only [ga_ne (show (12 : Nat) ≠ 6 by decide)]
    · show rcell _ 6 = rcell s 6; unfold rcell; simp only [ga_ne (show (13 : Nat) ≠ 6 by decide)]
    · show rcell _ 7 = rcell s 7; unfold rcell; simp only [ga_ne (show (14 : Nat) ≠ 6 by decide)]
    · show rcell _ 8 = rcell s 8; unfold rcell; simp only [ga_ne (show (15 : Nat) ≠ 6 by decide)]
    · show rcell _ 9 = rcell s 9; unfold rcell; simp only [ga_ne (show (16 : Nat) ≠ 6 by decide)]
    · rfl
    · rfl
    · rfl
    · show rcell _ 13 = rcell s 13; unfold rcell; simp only [ga_ne (show (20 : Nat) ≠ 6 by decide)]
    · show rcell _ 14 = rcell s 14; unfold rcell; simp only [ga_ne (show (21 : Nat) ≠ 6 by decide)]
    · show rcell _ 15 = rcell s 15; unfold rcell; simp only [ga_ne (show (23 : Nat) ≠ 6 by decide)]
    · show rcell _ 16 = rcell s 16; unfold rcell; simp only [ga_ne (show (24 : Nat) ≠ 6 by decide)]
    · show rcell _ 17 = rcell s 17; unfold rcell; simp only [ga_ne (show (25 : Nat) ≠ 6 by decide)]
    · show rcell _ 18 = rcell s 18; unfold rcell; simp only [ga_ne (show (26 : Nat) ≠ 6 by decide)]
    · show rcell _ 19 = rcell s 19; unfold rcell; simp only [ga_ne (show (30 : Nat) ≠ 6 by decide)]
    · show rcell _ 20 = rcell s 20; unfold rcell; simp only [ga_ne (show (31 : Nat) ≠ 6 by decide)]
    · show rcell _ 21 = rcell s 21; unfold rcell; simp only [ga_ne (show (46 : Nat) ≠ 6 by decide)]
    · show rcell _ 22 = rcell s 22; unfold rcell; simp only [ga_ne (show (47 : Nat) ≠ 6 by decide)]
    · show rcell _ 23 = rcell s 23; unfold rcell; simp only [ga_ne (show (48 : Nat) ≠ 6 by decide)]
  · have h1 : ∀ s' : RS, rcell s' p = none := fun s' => by unfold rcell; split <;> first | omega | rfl
    rw [h1, h1, if_neg]; intro z; have : rpos 6 = 0 := rfl; omega
theorem as6 {i : Int32} {x : Int32} : as_I (rh b m s) 0 (rr m 6) i x = (ix_ i 1000).map fun j => rh b m (ua s 6 j x) := by
  unfold as_I; rw [ar6]; simp only [Option.bind_some, up6]
theorem ar7 : ar_I (rh b m s) 0 (rr m 7) = some (ra m 7, 1000, ga s 7) := by
  rw [show rr m 7 = some (ra m 7) from rfl]; unfold ar_I; simp only [rhA (b := b) (m := m) (s := s) (k := 7) (by decide)]; rfl
theorem al7 {i : Int32} : al_I (rh b m s) 0 (rr m 7) i = (ix_ i 1000).map (ga s 7) := by
  unfold al_I; rw [ar7]; rfl
theorem up7 {j : Nat} {x : Int32} : up_A (rh b m s) (ra m 7) (0, 1000, .inl (va_up (ga s 7) j x)) = rh b m (ua s 7 j x) := by
  refine rh_up (by decide) rfl rfl fun p => ?_
  rcases (show p < 24 ∨ 24 ≤ p by omega) with h | h
  · have h' : p ∈ List.range 24 := List.mem_range.mpr h
    revert p
    refine fun p h h' => ?_
    rcases (show p = 0 ∨ p = 1 ∨ p = 2 ∨ p = 3 ∨ p = 4 ∨ p = 5 ∨ p = 6 ∨ p = 7 ∨ p = 8 ∨ p = 9 ∨ p = 10 ∨ p = 11 ∨ p = 12 ∨ p = 13 ∨ p = 14 ∨ p = 15 ∨ p = 16 ∨ p = 17 ∨ p = 18 ∨ p = 19 ∨ p = 20 ∨ p = 21 ∨ p = 22 ∨ p = 23 by omega) with rfl | rfl | rfl | rfl | rfl | rfl | rfl | rfl | rfl | rfl | rfl | rfl | rfl | rfl | rfl | rfl | rfl | rfl | rfl | rfl | rfl | rfl | rfl | rfl
    · show rcell _ 0 = rcell s 0; unfold rcell; simp only [ga_ne (show (6 : Nat) ≠ 7 by decide)]
    · show rcell _ 1 = some _; unfold rcell; simp only [ga_eq]
    · show rcell _ 2 = rcell s 2; unfold rcell; simp only [ga_ne (show (8 : Nat) ≠ 7 by decide)]
    · show rcell _ 3 = rcell s 3; unfold rcell; simp only [ga_ne (show (9 : Nat) ≠ 7 by decide)]
    · show rcell _ 4 = rcell s 4; unfold rcell; simp only [ga_ne (show (11 : Nat) ≠ 7 by decide)]
    · show rcell _ 5 = rcell s 5; unfold rcell; simp only [ga_ne (show (12 : Nat) ≠ 7 by decide)]
    · show rcell _ 6 = rcell s 6; unfold rcell; simp only [ga_ne (show (13 : Nat) ≠ 7 by decide)]
    · show rcell _ 7 = rcell s 7; unfold rcell; simp only [ga_ne (show (14 : Nat) ≠ 7 by decide)]
    · show rcell _ 8 = rcell s 8; unfold rcell; simp only [ga_ne (show (15 : Nat) ≠ 7 by decide)]
    · show rcell _ 9 = rcell s 9; unfold rcell; simp only [ga_ne (show (16 : Nat) ≠ 7 by decide)]
    · rfl
    · rfl
    · rfl
    · show rcell _ 13 = rcell s 13; unfold rcell; simp only [ga_ne (show (20 : Nat) ≠ 7 by decide)]
    · show rcell _ 14 = rcell s 14; unfold rcell; simp only [ga_ne (show (21 : Nat) ≠ 7 by decide)]
    · show rcell _ 15 = rcell s 15; unfold rcell; simp only [ga_ne (show (23 : Nat) ≠ 7 by decide)]
    · show rcell _ 16 = rcell s 16; unfold rcell; simp only [ga_ne (show (24 : Nat) ≠ 7 by decide)]
    · show rcell _ 17 = rcell s 17; unfold rcell; simp only [ga_ne (show (25 : Nat) ≠ 7 by decide)]
    · show rcell _ 18 = rcell s 18; unfold rcell; simp only [ga_ne (show (26 : Nat) ≠ 7 by decide)]
    · show rcell _ 19 = rcell s 19; unfold rcell; simp only [ga_ne (show (30 : Nat) ≠ 7 by decide)]
    · show rcell _ 20 = rcell s 20; unfold rcell; simp only [ga_ne (show (31 : Nat) ≠ 7 by decide)]
    · show rcell _ 21 = rcell s 21; unfold rcell; simp only [ga_ne (show (46 : Nat) ≠ 7 by decide)]
    · show rcell _ 22 = rcell s 22; unfold rcell; simp only [ga_ne (show (47 : Nat) ≠ 7 by decide)]
    · show rcell _ 23 = rcell s 23; unfold rcell; simp only [ga_ne (show (48 : Nat) ≠ 7 by decide)]
  · have h1 : ∀ s' : RS, rcell s' p = none := fun s' => by unfold rcell; split <;> first | omega | rfl
    rw [h1, h1, if_neg]; intro z; have : rpos 7 = 1 := rfl; omega
theorem as7 {i : Int32} {x : Int32} : as_I (rh b m s) 0 (rr m 7) i x = (ix_ i 1000).map fun j => rh b m (ua s 7 j x) := by
  unfold as_I; rw [ar7]; simp only [Option.bind_some, up7]
theorem ar8 : ar_I (rh b m s) 0 (rr m 8) = some (ra m 8, 1000, ga s 8) := by
  rw [show rr m 8 = some (ra m 8) from rfl]; unfold ar_I; simp only [rhA (b := b) (m := m) (s := s) (k := 8) (by decide)]; rfl
theorem al8 {i : Int32} : al_I (rh b m s) 0 (rr m 8) i = (ix_ i 1000).map (ga s 8) := by
  unfold al_I; rw [ar8]; rfl
theorem up8 {j : Nat} {x : Int32} : up_A (rh b m s) (ra m 8) (0, 1000, .inl (va_up (ga s 8) j x)) = rh b m (ua s 8 j x) := by
  refine rh_up (by decide) rfl rfl fun p => ?_
  rcases (show p < 24 ∨ 24 ≤ p by omega) with h | h
  · have h' : p ∈ List.range 24 := List.mem_range.mpr h
    revert p
    refine fun p h h' => ?_
    rcases (show p = 0 ∨ p = 1 ∨ p = 2 ∨ p = 3 ∨ p = 4 ∨ p = 5 ∨ p = 6 ∨ p = 7 ∨ p = 8 ∨ p = 9 ∨ p = 10 ∨ p = 11 ∨ p = 12 ∨ p = 13 ∨ p = 14 ∨ p = 15 ∨ p = 16 ∨ p = 17 ∨ p = 18 ∨ p = 19 ∨ p = 20 ∨ p = 21 ∨ p = 22 ∨ p = 23 by omega) with rfl | rfl | rfl | rfl | rfl | rfl | rfl | rfl | rfl | rfl | rfl | rfl | rfl | rfl | rfl | rfl | rfl | rfl | rfl | rfl | rfl | rfl | rfl | rfl
    · show rcell _ 0 = rcell s 0; unfold rcell; simp only [ga_ne (show (6 : Nat) ≠ 8 by decide)]
    · show rcell _ 1 = rcell s 1; unfold rcell; simp only [ga_ne (show (7 : Nat) ≠ 8 by decide)]
    · show rcell _ 2 = some _; unfold rcell; simp only [ga_eq]
    · show rcell _ 3 = rcell s 3; unfold rcell; simp only [ga_ne (show (9 : Nat) ≠ 8 by decide)]
    · show rcell _ 4 = rcell s 4; unfold rcell; simp only [ga_ne (show (11 : Nat) ≠ 8 by decide)]
    · show rcell _ 5 = rcell s 5; unfold rcell; simp only [ga_ne (show (12 : Nat) ≠ 8 by decide)]
    · show rcell _ 6 = rcell s 6; unfold rcell; simp only [ga_ne (show (13 : Nat) ≠ 8 by decide)]
    · show rcell _ 7 = rcell s 7; unfold rcell; simp only [ga_ne (show (14 : Nat) ≠ 8 by decide)]
    · show rcell _ 8 = rcell s 8; unfold rcell; simp only [ga_ne (show (15 : Nat) ≠ 8 by decide)]
    · show rcell _ 9 = rcell s 9; unfold rcell; simp only [ga_ne (show (16 : Nat) ≠ 8 by decide)]
    · rfl
    · rfl
    · rfl
    · show rcell _ 13 = rcell s 13; unfold rcell; simp only [ga_ne (show (20 : Nat) ≠ 8 by decide)]
    · show rcell _ 14 = rcell s 14; unfold rcell; simp only [ga_ne (show (21 : Nat) ≠ 8 by decide)]
    · show rcell _ 15 = rcell s 15; unfold rcell; simp only [ga_ne (show (23 : Nat) ≠ 8 by decide)]
    · show rcell _ 16 = rcell s 16; unfold rcell; simp only [ga_ne (show (24 : Nat) ≠ 8 by decide)]
    · show rcell _ 17 = rcell s 17; unfold rcell; simp only [ga_ne (show (25 : Nat) ≠ 8 by decide)]
    · show rcell _ 18 = rcell s 18; unfold rcell; simp only [ga_ne (show (26 : Nat) ≠ 8 by decide)]
    · show rcell _ 19 = rcell s 19; unfold rcell; simp only [ga_ne (show (30 : Nat) ≠ 8 by decide)]
    · show rcell _ 20 = rcell s 20; unfold rcell; simp only [ga_ne (show (31 : Nat) ≠ 8 by decide)]
    · show rcell _ 21 = rcell s 21; unfold rcell; simp only [ga_ne (show (46 : Nat) ≠ 8 by decide)]
    · show rcell _ 22 = rcell s 22; unfold rcell; simp only [ga_ne (show (47 : Nat) ≠ 8 by decide)]
    · show rcell _ 23 = rcell s 23; unfold rcell; simp only [ga_ne (show (48 : Nat) ≠ 8 by decide)]
  · have h1 : ∀ s' : RS, rcell s' p = none := fun s' => by unfold rcell; split <;> first | omega | rfl
    rw [h1, h1, if_neg]; intro z; have : rpos 8 = 2 := rfl; omega
theorem as8 {i : Int32} {x : Int32} : as_I (rh b m s) 0 (rr m 8) i x = (ix_ i 1000).map fun j => rh b m (ua s 8 j x) := by
  unfold as_I; rw [ar8]; simp only [Option.bind_some, up8]
theorem ar9 : ar_I (rh b m s) 0 (rr m 9) = some (ra m 9, 1000, ga s 9) := by
  rw [show rr m 9 = some (ra m 9) from rfl]; unfold ar_I; simp only [rhA (b := b) (m := m) (s := s) (k := 9) (by decide)]; rfl
theorem al9 {i : Int32} : al_I (rh b m s) 0 (rr m 9) i = (ix_ i 1000).map (ga s 9) := by
  unfold al_I; rw [ar9]; rfl
theorem up9 {j : Nat} {x : Int32} : up_A (rh b m s) (ra m 9) (0, 1000, .inl (va_up (ga s 9) j x)) = rh b m (ua s 9 j x) := by
  refine rh_up (by decide) rfl rfl fun p => ?_
  rcases (show p < 24 ∨ 24 ≤ p by omega) with h | h
  · have h' : p ∈ List.range 24 := List.mem_range.mpr h
    revert p
    refine fun p h h' => ?_
    rcases (show p = 0 ∨ p = 1 ∨ p = 2 ∨ p = 3 ∨ p = 4 ∨ p = 5 ∨ p = 6 ∨ p = 7 ∨ p = 8 ∨ p = 9 ∨ p = 10 ∨ p = 11 ∨ p = 12 ∨ p = 13 ∨ p = 14 ∨ p = 15 ∨ p = 16 ∨ p = 17 ∨ p = 18 ∨ p = 19 ∨ p = 20 ∨ p = 21 ∨ p = 22 ∨ p = 23 by omega) with rfl | rfl | rfl | rfl | rfl | rfl | rfl | rfl | rfl | rfl | rfl | rfl | rfl | rfl | rfl | rfl | rfl | rfl | rfl | rfl | rfl | rfl | rfl | rfl
    · show rcell _ 0 = rcell s 0; unfold rcell; simp only [ga_ne (show (6 : Nat) ≠ 9 by decide)]
    · show rcell _ 1 = rcell s 1; unfold rcell; simp only [ga_ne (show (7 : Nat) ≠ 9 by decide)]
    · show rcell _ 2 = rcell s 2; unfold rcell; simp only [ga_ne (show (8 : Nat) ≠ 9 by decide)]
    · show rcell _ 3 = some _; unfold rcell; simp only [ga_eq]
    · show rcell _ 4 = rcell s 4; unfold rcell; simp only [ga_ne (show (11 : Nat) ≠ 9 by decide)]
    · show rcell _ 5 = rcell s 5; unfold rcell; simp only [ga_ne (show (12 : Nat) ≠ 9 by decide)]
    · show rcell _ 6 = rcell s 6; unfold rcell; simp only [ga_ne (show (13 : Nat) ≠ 9 by decide)]
    · show rcell _ 7 = rcell s 7; unfold rcell; simp only [ga_ne (show (14 : Nat) ≠ 9 by decide)]
    · show rcell _ 8 = rcell s 8; unfold rcell; simp only [ga_ne (show (15 : Nat) ≠ 9 by decide)]
    · show rcell _ 9 = rcell s 9; unfold rcell; simp only [ga_ne (show (16 : Nat) ≠ 9 by decide)]
    · rfl
    · rfl
    · rfl
    · show rcell _ 13 = rcell s 13; unfold rcell; simp only [ga_ne (show (20 : Nat) ≠ 9 by decide)]
    · show rcell _ 14 = rcell s 14; unfold rcell; simp only [ga_ne (show (21 : Nat) ≠ 9 by decide)]
    · show rcell _ 15 = rcell s 15; unfold rcell; simp only [ga_ne (show (23 : Nat) ≠ 9 by decide)]
    · show rcell _ 16 = rcell s 16; unfold rcell; simp only [ga_ne (show (24 : Nat) ≠ 9 by decide)]
    · show rcell _ 17 = rcell s 17; unfold rcell; simp only [ga_ne (show (25 : Nat) ≠ 9 by decide)]
    · show rcell _ 18 = rcell s 18; unfold rcell; simp only [ga_ne (show (26 : Nat) ≠ 9 by decide)]
    · show rcell _ 19 = rcell s 19; unfold rcell; simp only [ga_ne (show (30 : Nat) ≠ 9 by decide)]
    · show rcell _ 20 = rcell s 20; unfold rcell; simp only [ga_ne (show (31 : Nat) ≠ 9 by decide)]
    · show rcell _ 21 = rcell s 21; unfold rcell; simp only [ga_ne (show (46 : Nat) ≠ 9 by decide)]
    · show rcell _ 22 = rcell s 22; unfold rcell; simp only [ga_ne (show (47 : Nat) ≠ 9 by decide)]
    · show rcell _ 23 = rcell s 23; unfold rcell; simp only [ga_ne (show (48 : Nat) ≠ 9 by decide)]
  · have h1 : ∀ s' : RS, rcell s' p = none := fun s' => by unfold rcell; split <;> first | omega | rfl
    rw [h1, h1, if_neg]; intro z; have : rpos 9 = 3 := rfl; omega
theorem as9 {i : Int32} {x : Int32} : as_I (rh b m s) 0 (rr m 9) i x = (ix_ i 1000).map fun j => rh b m (ua s 9 j x) := by
  unfold as_I; rw [ar9]; simp only [Option.bind_some, up9]
theorem ar11 : ar_I (rh b m s) 0 (rr m 11) = some (ra m 11, 1100, ga s 11) := by
  rw [show rr m 11 = some (ra m 11) from rfl]; unfold ar_I; simp only [rhA (b := b) (m := m) (s := s) (k := 11) (by decide)]; rfl
theorem al11 {i : Int32} : al_I (rh b m s) 0 (rr m 11) i = (ix_ i 1100).map (ga s 11) := by
  unfold al_I; rw [ar11]; rfl
theorem up11 {j : Nat} {x : Int32} : up_A (rh b m s) (ra m 11) (0, 1100, .inl (va_up (ga s 11) j x)) = rh b m (ua s 11 j x) := by
  refine rh_up (by decide) rfl rfl fun p => ?_
  rcases (show p < 24 ∨ 24 ≤ p by omega) with h | h
  · have h' : p ∈ List.range 24 := List.mem_range.mpr h
    revert p
    refine fun p h h' => ?_
    rcases (show p = 0 ∨ p = 1 ∨ p = 2 ∨ p = 3 ∨ p = 4 ∨ p = 5 ∨ p = 6 ∨ p = 7 ∨ p = 8 ∨ p = 9 ∨ p = 10 ∨ p = 11 ∨ p = 12 ∨ p = 13 ∨ p = 14 ∨ p = 15 ∨ p = 16 ∨ p = 17 ∨ p = 18 ∨ p = 19 ∨ p = 20 ∨ p = 21 ∨ p = 22 ∨ p = 23 by omega) with rfl | rfl | rfl | rfl | rfl | rfl | rfl | rfl | rfl | rfl | rfl | rfl | rfl | rfl | rfl | rfl | rfl | rfl | rfl | rfl | rfl | rfl | rfl | rfl
    · show rcell _ 0 = rcell s 0; unfold rcell; simp only [ga_ne (show (6 : Nat) ≠ 11 by decide)]
    · show rcell _ 1 = rcell s 1; unfold rcell; simp only [ga_ne (show (7 : Nat) ≠ 11 by decide)]
    · show rcell _ 2 = rcell s 2; unfold rcell; simp only [ga_ne (show (8 : Nat) ≠ 11 by decide)]
    · show rcell _ 3 = rcell s 3; unfold rcell; simp only [ga_ne (show (9 : Nat) ≠ 11 by decide)]
    · show rcell _ 4 = some _; unfold rcell; simp only [ga_eq]
    · show rcell _ 5 = rcell s 5; unfold rcell; simp only [ga_ne (show (12 : Nat) ≠ 11 by decide)]
    · show rcell _ 6 = rcell s 6; unfold rcell; simp only [ga_ne (show (13 : Nat) ≠ 11 by decide)]
    · show rcell _ 7 = rcell s 7; unfold rcell; simp only [ga_ne (show (14 : Nat) ≠ 11 by decide)]
    · show rcell _ 8 = rcell s 8; unfold rcell; simp only [ga_ne (show (15 : Nat) ≠ 11 by decide)]
    · show rcell _ 9 = rcell s 9; unfold rcell; simp only [ga_ne (show (16 : Nat) ≠ 11 by decide)]
    · rfl
    · rfl
    · rfl
    · show rcell _ 13 = rcell s 13; unfold rcell; simp only [ga_ne (show (20 : Nat) ≠ 11 by decide)]
    · show rcell _ 14 = rcell s 14; unfold rcell; simp only [ga_ne (show (21 : Nat) ≠ 11 by decide)]
    · show rcell _ 15 = rcell s 15; unfold rcell; simp only [ga_ne (show (23 : Nat) ≠ 11 by decide)]
    · show rcell _ 16 = rcell s 16; unfold rcell; simp only [ga_ne (show (24 : Nat) ≠ 11 by decide)]
    · show rcell _ 17 = rcell s 17; unfold rcell; simp only [ga_ne (show (25 : Nat) ≠ 11 by decide)]
    · show rcell _ 18 = rcell s 18; unfold rcell; simp only [ga_ne (show (26 : Nat) ≠ 11 by decide)]
    · show rcell _ 19 = rcell s 19; unfold rcell; simp only [ga_ne (show (30 : Nat) ≠ 11 by decide)]
    · show rcell _ 20 = rcell s 20; unfold rcell; simp only [ga_ne (show (31 : Nat) ≠ 11 by decide)]
    · show rcell _ 21 = rcell s 21; unfold rcell; simp only [ga_ne (show (46 : Nat) ≠ 11 by decide)]
    · show rcell _ 22 = rcell s 22; unfold rcell; simp only [ga_ne (show (47 : Nat) ≠ 11 by decide)]
    · show rcell _ 23 = rcell s 23; unfold rcell; simp only [ga_ne (show (48 : Nat) ≠ 11 by decide)]
  · have h1 : ∀ s' : RS, rcell s' p = none := fun s' => by unfold rcell; split <;> first | omega | rfl
    rw [h1, h1, if_neg]; intro z; have : rpos 11 = 4 := rfl; omega
theorem as11 {i : Int32} {x : Int32} : as_I (rh b m s) 0 (rr m 11) i x = (ix_ i 1100).map fun j => rh b m (ua s 11 j x) := by
  unfold as_I; rw [ar11]; simp only [Option.bind_some, up11]
theorem ar12 : ar_I (rh b m s) 0 (rr m 12) = some (ra m 12, 1100, ga s 12) := by
  rw [show rr m 12 = some (ra m 12) from rfl]; unfold ar_I; simp only [rhA (b := b) (m := m) (s := s) (k := 12) (by decide)]; rfl
theorem al12 {i : Int32} : al_I (rh b m s) 0 (rr m 12) i = (ix_ i 1100).map (ga s 12) := by
  unfold al_I; rw [ar12]; rfl
theorem up12 {j : Nat} {x : Int32} : up_A (rh b m s) (ra m 12) (0, 1100, .inl (va_up (ga s 12) j x)) = rh b m (ua s 12 j x) := by
  refine rh_up (by decide) rfl rfl fun p => ?_
  rcases (show p < 24 ∨ 24 ≤ p by omega) with h | h
  · have h' : p ∈ List.range 24 := List.mem_range.mpr h
    revert p
    refine fun p h h' => ?_
    rcases (show p = 0 ∨ p = 1 ∨ p = 2 ∨ p = 3 ∨ p = 4 ∨ p = 5 ∨ p = 6 ∨ p = 7 ∨ p = 8 ∨ p = 9 ∨ p = 10 ∨ p = 11 ∨ p = 12 ∨ p = 13 ∨ p = 14 ∨ p = 15 ∨ p = 16 ∨ p = 17 ∨ p = 18 ∨ p = 19 ∨ p = 20 ∨ p = 21 ∨ p = 22 ∨ p = 23 by omega) with rfl | rfl | rfl | rfl | rfl | rfl | rfl | rfl | rfl | rfl | rfl | rfl | rfl | rfl | rfl | rfl | rfl | rfl | rfl | rfl | rfl | rfl | rfl | rfl
    · show rcell _ 0 = rcell s 0; unfold rcell; simp only [ga_ne (show (6 : Nat) ≠ 12 by decide)]
    · show rcell _ 1 = rcell s 1; unfold rcell; simp only [ga_ne (show (7 : Nat) ≠ 12 by decide)]
    · show rcell _ 2 = rcell s 2; unfold rcell; simp only [ga_ne (show (8 : Nat) ≠ 12 by decide)]
    · show rcell _ 3 = rcell s 3; unfold rcell; simp only [ga_ne (show (9 : Nat) ≠ 12 by decide)]
    · show rcell _ 4 = rcell s 4; unfold rcell; simp only [ga_ne (show (11 : Nat) ≠ 12 by decide)]
    · show rcell _ 5 = some _; unfold rcell; simp only [ga_eq]
    · show rcell _ 6 = rcell s 6; unfold rcell; simp only [ga_ne (show (13 : Nat) ≠ 12 by decide)]
    · show rcell _ 7 = rcell s 7; unfold rcell; simp only [ga_ne (show (14 : Nat) ≠ 12 by decide)]
    · show rcell _ 8 = rcell s 8; unfold rcell; simp only [ga_ne (show (15 : Nat) ≠ 12 by decide)]
    · show rcell _ 9 = rcell s 9; unfold rcell; simp only [ga_ne (show (16 : Nat) ≠ 12 by decide)]
    · rfl
    · rfl
    · rfl
    · show rcell _ 13 = rcell s 13; unfold rcell; simp only [ga_ne (show (20 : Nat) ≠ 12 by decide)]
    · show rcell _ 14 = rcell s 14; unfold rcell; simp only [ga_ne (show (21 : Nat) ≠ 12 by decide)]
    · show rcell _ 15 = rcell s 15; unfold rcell; simp only [ga_ne (show (23 : Nat) ≠ 12 by decide)]
    · show rcell _ 16 = rcell s 16; unfold rcell; simp only [ga_ne (show (24 : Nat) ≠ 12 by decide)]
    · show rcell _ 17 = rcell s 17; unfold rcell; simp only [ga_ne (show (25 : Nat) ≠ 12 by decide)]
    · show rcell _ 18 = rcell s 18; unfold rcell; simp only [ga_ne (show (26 : Nat) ≠ 12 by decide)]
    · show rcell _ 19 = rcell s 19; unfold rcell; simp only [ga_ne (show (30 : Nat) ≠ 12 by decide)]
    · show rcell _ 20 = rcell s 20; unfold rcell; simp only [ga_ne (show (31 : Nat) ≠ 12 by decide)]
    · show rcell _ 21 = rcell s 21; unfold rcell; simp only [ga_ne (show (46 : Nat) ≠ 12 by decide)]
    · show rcell _ 22 = rcell s 22; unfold rcell; simp only [ga_ne (show (47 : Nat) ≠ 12 by decide)]
    · show rcell _ 23 = rcell s 23; unfold rcell; simp only [ga_ne (show (48 : Nat) ≠ 12 by decide)]
  · have h1 : ∀ s' : RS, rcell s' p = none := fun s' => by unfold rcell; split <;> first | omega | rfl
    rw [h1, h1, if_neg]; intro z; have : rpos 12 = 5 := rfl; omega
theorem as12 {i : Int32} {x : Int32} : as_I (rh b m s) 0 (rr m 12) i x = (ix_ i 1100).map fun j => rh b m (ua s 12 j x) := by
  unfold as_I; rw [ar12]; simp only [Option.bind_some, up12]
theorem ar13 : ar_I (rh b m s) 0 (rr m 13) = some (ra m 13, 1100, ga s 13) := by
  rw [show rr m 13 = some (ra m 13) from rfl]; unfold ar_I; simp only [rhA (b := b) (m := m) (s := s) (k := 13) (by decide)]; rfl
theorem al13 {i : Int32} : al_I (rh b m s) 0 (rr m 13) i = (ix_ i 1100).map (ga s 13) := by
  unfold al_I; rw [ar13]; rfl
theorem up13 {j : Nat} {x : Int32} : up_A (rh b m s) (ra m 13) (0, 1100, .inl (va_up (ga s 13) j x)) = rh b m (ua s 13 j x) := by
  refine rh_up (by decide) rfl rfl fun p => ?_
  rcases (show p < 24 ∨ 24 ≤ p by omega) with h | h
  · have h' : p ∈ List.range 24 := List.mem_range.mpr h
    revert p
    refine fun p h h' => ?_
    rcases (show p = 0 ∨ p = 1 ∨ p = 2 ∨ p = 3 ∨ p = 4 ∨ p = 5 ∨ p = 6 ∨ p = 7 ∨ p = 8 ∨ p = 9 ∨ p = 10 ∨ p = 11 ∨ p = 12 ∨ p = 13 ∨ p = 14 ∨ p = 15 ∨ p = 16 ∨ p = 17 ∨ p = 18 ∨ p = 19 ∨ p = 20 ∨ p = 21 ∨ p = 22 ∨ p = 23 by omega) with rfl | rfl | rfl | rfl | rfl | rfl | rfl | rfl | rfl | rfl | rfl | rfl | rfl | rfl | rfl | rfl | rfl | rfl | rfl | rfl | rfl | rfl | rfl | rfl
    · show rcell _ 0 = rcell s 0; unfold rcell; simp only [ga_ne (show (6 : Nat) ≠ 13 by decide)]
    · show rcell _ 1 = rcell s 1; unfold rcell; simp only [ga_ne (show (7 : Nat) ≠ 13 by decide)]
    · show rcell _ 2 = rcell s 2; unfold rcell; simp only [ga_ne (show (8 : Nat) ≠ 13 by decide)]
    · show rcell _ 3 = rcell s 3; unfold rcell; simp only [ga_ne (show (9 : Nat) ≠ 13 by decide)]
    · show rcell _ 4 = rcell s 4; unfold rcell; simp only [ga_ne (show (11 : Nat) ≠ 13 by decide)]
    · show rcell _ 5 = rcell s 5; unfold rcell; simp only [ga_ne (show (12 : Nat) ≠ 13 by decide)]
    · show rcell _ 6 = some _; unfold rcell; simp only [ga_eq]
    · show rcell _ 7 = rcell s 7; unfold rcell; simp only [ga_ne (show (14 : Nat) ≠ 13 by decide)]
    · show rcell _ 8 = rcell s 8; unfold rcell; simp only [ga_ne (show (15 : Nat) ≠ 13 by decide)]
    · show rcell _ 9 = rcell s 9; unfold rcell; simp only [ga_ne (show (16 : Nat) ≠ 13 by decide)]
    · rfl
    · rfl
    · rfl
    · show rcell _ 13 = rcell s 13; unfold rcell; simp only [ga_ne (show (20 : Nat) ≠ 13 by decide)]
    · show rcell _ 14 = rcell s 14; unfold rcell; simp only [ga_ne (show (21 : Nat) ≠ 13 by decide)]
    · show rcell _ 15 = rcell s 15; unfold rcell; simp only [ga_ne (show (23 : Nat) ≠ 13 by decide)]
    · show rcell _ 16 = rcell s 16; unfold rcell; simp only [ga_ne (show (24 : Nat) ≠ 13 by decide)]
    · show rcell _ 17 = rcell s 17; unfold rcell; simp only [ga_ne (show (25 : Nat) ≠ 13 by decide)]
    · show rcell _ 18 = rcell s 18; unfold rcell; simp only [ga_ne (show (26 : Nat) ≠ 13 by decide)]
    · show rcell _ 19 = rcell s 19; unfold rcell; simp only [ga_ne (show (30 : Nat) ≠ 13 by decide)]
    · show rcell _ 20 = rcell s 20; unfold rcell; simp only [ga_ne (show (31 : Nat) ≠ 13 by decide)]
    · show rcell _ 21 = rcell s 21; unfold rcell; simp only [ga_ne (show (46 : Nat) ≠ 13 by decide)]
    · show rcell _ 22 = rcell s 22; unfold rcell; simp only [ga_ne (show (47 : Nat) ≠ 13 by decide)]
    · show rcell _ 23 = rcell s 23; unfold rcell; simp only [ga_ne (show (48 : Nat) ≠ 13 by decide)]
  · have h1 : ∀ s' : RS, rcell s' p = none := fun s' => by unfold rcell; split <;> first | omega | rfl
    rw [h1, h1, if_neg]; intro z; have : rpos 13 = 6 := rfl; omega
theorem as13 {i : Int32} {x : Int32} : as_I (rh b m s) 0 (rr m 13) i x = (ix_ i 1100).map fun j => rh b m (ua s 13 j x) := by
  unfold as_I; rw [ar13]; simp only [Option.bind_some, up13]
theorem ar14 : ar_I (rh b m s) 0 (rr m 14) = some (ra m 14, 1100, ga s 14) := by
  rw [show rr m 14 = some (ra m 14) from rfl]; unfold ar_I; simp only [rhA (b := b) (m := m) (s := s) (k := 14) (by decide)]; rfl
theorem al14 {i : Int32} : al_I (rh b m s) 0 (rr m 14) i = (ix_ i 1100).map (ga s 14) := by
  unfold al_I; rw [ar14]; rfl
theorem up14 {j : Nat} {x : Int32} : up_A (rh b m s) (ra m 14) (0, 1100, .inl (va_up (ga s 14) j x)) = rh b m (ua s 14 j x) := by
  refine rh_up (by decide) rfl rfl fun p => ?_
  rcases (show p < 24 ∨ 24 ≤ p by omega) with h | h
  · have h' : p ∈ List.range 24 := List.mem_range.mpr h
    revert p
    refine fun p h h' => ?_
    rcases (show p = 0 ∨ p = 1 ∨ p = 2 ∨ p = 3 ∨ p = 4 ∨ p = 5 ∨ p = 6 ∨ p = 7 ∨ p = 8 ∨ p = 9 ∨ p = 10 ∨ p = 11 ∨ p = 12 ∨ p = 13 ∨ p = 14 ∨ p = 15 ∨ p = 16 ∨ p = 17 ∨ p = 18 ∨ p = 19 ∨ p = 20 ∨ p = 21 ∨ p = 22 ∨ p = 23 by omega) with rfl | rfl | rfl | rfl | rfl | rfl | rfl | rfl | rfl | rfl | rfl | rfl | rfl | rfl | rfl | rfl | rfl | rfl | rfl | rfl | rfl | rfl | rfl | rfl
    · show rcell _ 0 = rcell s 0; unfold rcell; simp only [ga_ne (show (6 : Nat) ≠ 14 by decide)]
    · show rcell _ 1 = rcell s 1; unfold rcell; simp only [ga_ne (show (7 : Nat) ≠ 14 by decide)]
    · show rcell _ 2 = rcell s 2; unfold rcell; simp only [ga_ne (show (8 : Nat) ≠ 14 by decide)]
    · show rcell _ 3 = rcell s 3; unfold rcell; simp only [ga_ne (show (9 : Nat) ≠ 14 by decide)]
    · show rcell _ 4 = rcell s 4; unfold rcell; simp only [ga_ne (show (11 : Nat) ≠ 14 by decide)]
    · show rcell _ 5 = rcell s 5; unfold rcell; simp only [ga_ne (show (12 : Nat) ≠ 14 by decide)]
    · show rcell _ 6 = rcell s 6; unfold rcell; simp only [ga_ne (show (13 : Nat) ≠ 14 by decide)]
    · show rcell _ 7 = some _; unfold rcell; simp only [ga_eq]
    · show rcell _ 8 = rcell s 8; unfold rcell; simp only [ga_ne (show (15 : Nat) ≠ 14 by decide)]
    · show rcell _ 9 = rcell s 9; unfold rcell; simp only [ga_ne (show (16 : Nat) ≠ 14 by decide)]
    · rfl
    · rfl
    · rfl
    · show rcell _ 13 = rcell s 13; unfold rcell; simp only [ga_ne (show (20 : Nat) ≠ 14 by decide)]
    · show rcell _ 14 = rcell s 14; unfold rcell; simp only [ga_ne (show (21 : Nat) ≠ 14 by decide)]
    · show rcell _ 15 = rcell s 15; unfold rcell; simp only [ga_ne (show (23 : Nat) ≠ 14 by decide)]
    · show rcell _ 16 = rcell s 16; unfold rcell; simp only [ga_ne (show (24 : Nat) ≠ 14 by decide)]
    · show rcell _ 17 = rcell s 17; unfold rcell; simp only [ga_ne (show (25 : Nat) ≠ 14 by decide)]
    · show rcell _ 18 = rcell s 18; unfold rcell; simp only [ga_ne (show (26 : Nat) ≠ 14 by decide)]
    · show rcell _ 19 = rcell s 19; unfold rcell; simp only [ga_ne (show (30 : Nat) ≠ 14 by decide)]
    · show rcell _ 20 = rcell s 20; unfold rcell; simp only [ga_ne (show (31 : Nat) ≠ 14 by decide)]
    · show rcell _ 21 = rcell s 21; unfold rcell; simp only [ga_ne (show (46 : Nat) ≠ 14 by decide)]
    · show rcell _ 22 = rcell s 22; unfold rcell; simp only [ga_ne (show (47 : Nat) ≠ 14 by decide)]
    · show rcell _ 23 = rcell s 23; unfold rcell; simp only [ga_ne (show (48 : Nat) ≠ 14 by decide)]
  · have h1 : ∀ s' : RS, rcell s' p = none := fun s' => by unfold rcell; split <;> first | omega | rfl
    rw [h1, h1, if_neg]; intro z; have : rpos 14 = 7 := rfl; omega
theorem as14 {i : Int32} {x : Int32} : as_I (rh b m s) 0 (rr m 14) i x = (ix_ i 1100).map fun j => rh b m (ua s 14 j x) := by
  unfold as_I; rw [ar14]; simp only [Option.bind_some, up14]
theorem ar15 : ar_I (rh b m s) 0 (rr m 15) = some (ra m 15, 1100, ga s 15) := by
  rw [show rr m 15 = some (ra m 15) from rfl]; unfold ar_I; simp only [rhA (b := b) (m := m) (s := s) (k := 15) (by decide)]; rfl
theorem al15 {i : Int32} : al_I (rh b m s) 0 (rr m 15) i = (ix_ i 1100).map (ga s 15) := by
  unfold al_I; rw [ar15]; rfl
theorem up15 {j : Nat} {x : Int32} : up_A (rh b m s) (ra m 15) (0, 1100, .inl (va_up (ga s 15) j x)) = rh b m (ua s 15 j x) := by
  refine rh_up (by decide) rfl rfl fun p => ?_
  rcases (show p < 24 ∨ 24 ≤ p by omega) with h | h
  · have h' : p ∈ List.range 24 := List.mem_range.mpr h
    revert p
    refine fun p h h' => ?_
    rcases (show p = 0 ∨ p = 1 ∨ p = 2 ∨ p = 3 ∨ p = 4 ∨ p = 5 ∨ p = 6 ∨ p = 7 ∨ p = 8 ∨ p = 9 ∨ p = 10 ∨ p = 11 ∨ p = 12 ∨ p = 13 ∨ p = 14 ∨ p = 15 ∨ p = 16 ∨ p = 17 ∨ p = 18 ∨ p = 19 ∨ p = 20 ∨ p = 21 ∨ p = 22 ∨ p = 23 by omega) with rfl | rfl | rfl | rfl | rfl | rfl | rfl | rfl | rfl | rfl | rfl | rfl | rfl | rfl | rfl | rfl | rfl | rfl | rfl | rfl | rfl | rfl | rfl | rfl
    · show rcell _ 0 = rcell s 0; unfold rcell; simp only [ga_ne (show (6 : Nat) ≠ 15 by decide)]
    · show rcell _ 1 = rcell s 1; unfold rcell; simp only [ga_ne (show (7 : Nat) ≠ 15 by decide)]
    · show rcell _ 2 = rcell s 2; unfold rcell; simp only [ga_ne (show (8 : Nat) ≠ 15 by decide)]
    · show rcell _ 3 = rcell s 3; unfold rcell; simp only [ga_ne (show (9 : Nat) ≠ 15 by decide)]
    · show rcell _ 4 = rcell s 4; unfold rcell; simp only [ga_ne (show (11 : Nat) ≠ 15 by decide)]
    · show rcell _ 5 = rcell s 5; unfold rcell; simp only [ga_ne (show (12 : Nat) ≠ 15 by decide)]
    · show rcell _ 6 = rcell s 6; unfold rcell; simp only [ga_ne (show (13 : Nat) ≠ 15 by decide)]
    · show rcell _ 7 = rcell s 7; unfold rcell; simp only [ga_ne (show (14 : Nat) ≠ 15 by decide)]
    · show rcell _ 8 = some _; unfold rcell; simp only [ga_eq]
    · show rcell _ 9 = rcell s 9; unfold rcell; simp only [ga_ne (show (16 : Nat) ≠ 15 by decide)]
    · rfl
    · rfl
    · rfl
    · show rcell _ 13 = rcell s 13; unfold rcell; simp only [ga_ne (show (20 : Nat) ≠ 15 by decide)]
    · show rcell _ 14 = rcell s 14; unfold rcell; simp only [ga_ne (show (21 : Nat) ≠ 15 by decide)]
    · show rcell _ 15 = rcell s 15; unfold rcell; simp only [ga_ne (show (23 : Nat) ≠ 15 by decide)]
    · show rcell _ 16 = rcell s 16; unfold rcell; simp only [ga_ne (show (24 : Nat) ≠ 15 by decide)]
    · show rcell _ 17 = rcell s 17; unfold rcell; simp only [ga_ne (show (25 : Nat) ≠ 15 by decide)]
    · show rcell _ 18 = rcell s 18; unfold rcell; simp only [ga_ne (show (26 : Nat) ≠ 15 by decide)]
    · show rcell _ 19 = rcell s 19; unfold rcell; simp only [ga_ne (show (30 : Nat) ≠ 15 by decide)]
    · show rcell _ 20 = rcell s 20; unfold rcell; simp only [ga_ne (show (31 : Nat) ≠ 15 by decide)]
    · show rcell _ 21 = rcell s 21; unfold rcell; simp only [ga_ne (show (46 : Nat) ≠ 15 by decide)]
    · show rcell _ 22 = rcell s 22; unfold rcell; simp only [ga_ne (show (47 : Nat) ≠ 15 by decide)]
    · show rcell _ 23 = rcell s 23; unfold rcell; simp only [ga_ne (show (48 : Nat) ≠ 15 by decide)]
  · have h1 : ∀ s' : RS, rcell s' p = none := fun s' => by unfold rcell; split <;> first | omega | rfl
    rw [h1, h1, if_neg]; intro z; have : rpos 15 = 8 := rfl; omega
theorem as15 {i : Int32} {x : Int32} : as_I (rh b m s) 0 (rr m 15) i x = (ix_ i 1100).map fun j => rh b m (ua s 15 j x) := by
  unfold as_I; rw [ar15]; simp only [Option.bind_some, up15]
theorem ar16 : ar_I (rh b m s) 0 (rr m 16) = some (ra m 16, 1100, ga s 16) := by
  rw [show rr m 16 = some (ra m 16) from rfl]; unfold ar_I; simp only [rhA (b := b) (m := m) (s := s) (k := 16) (by decide)]; rfl
theorem al16 {i : Int32} : al_I (rh b m s) 0 (rr m 16) i = (ix_ i 1100).map (ga s 16) := by
  unfold al_I; rw [ar16]; rfl
theorem up16 {j : Nat} {x : Int32} : up_A (rh b m s) (ra m 16) (0, 1100, .inl (va_up (ga s 16) j x)) = rh b m (ua s 16 j x) := by
  refine rh_up (by decide) rfl rfl fun p => ?_
  rcases (show p < 24 ∨ 24 ≤ p by omega) with h | h
  · have h' : p ∈ List.range 24 := List.mem_range.mpr h
    revert p
    refine fun p h h' => ?_
    rcases (show p = 0 ∨ p = 1 ∨ p = 2 ∨ p = 3 ∨ p = 4 ∨ p = 5 ∨ p = 6 ∨ p = 7 ∨ p = 8 ∨ p = 9 ∨ p = 10 ∨ p = 11 ∨ p = 12 ∨ p = 13 ∨ p = 14 ∨ p = 15 ∨ p = 16 ∨ p = 17 ∨ p = 18 ∨ p = 19 ∨ p = 20 ∨ p = 21 ∨ p = 22 ∨ p = 23 by omega) with rfl | rfl | rfl | rfl | rfl | rfl | rfl | rfl | rfl | rfl | rfl | rfl | rfl | rfl | rfl | rfl | rfl | rfl | rfl | rfl | rfl | rfl | rfl | rfl
    · show rcell _ 0 = rcell s 0; unfold rcell; simp only [ga_ne (show (6 : Nat) ≠ 16 by decide)]
    · show rcell _ 1 = rcell s 1; unfold rcell; simp only [ga_ne (show (7 : Nat) ≠ 16 by decide)]
    · show rcell _ 2 = rcell s 2; unfold rcell; simp only [ga_ne (show (8 : Nat) ≠ 16 by decide)]
    · show rcell _ 3 = rcell s 3; unfold rcell; simp only [ga_ne (show (9 : Nat) ≠ 16 by decide)]
    · show rcell _ 4 = rcell s 4; unfold rcell; simp only [ga_ne (show (11 : Nat) ≠ 16 by decide)]
    · show rcell _ 5 = rcell s 5; unfold rcell; simp only [ga_ne (show (12 : Nat) ≠ 16 by decide)]
    · show rcell _ 6 = rcell s 6; unfold rcell; simp only [ga_ne (show (13 : Nat) ≠ 16 by decide)]
    · show rcell _ 7 = rcell s 7; unfold rcell; simp only [ga_ne (show (14 : Nat) ≠ 16 by decide)]
    · show rcell _ 8 = rcell s 8; unfold rcell; simp only [ga_ne (show (15 : Nat) ≠ 16 by decide)]
    · show rcell _ 9 = some _; unfold rcell; simp only [ga_eq]
    · rfl
    · rfl
    · rfl
    · show rcell _ 13 = rcell s 13; unfold rcell; simp only [ga_ne (show (20 : Nat) ≠ 16 by decide)]
    · show rcell _ 14 = rcell s 14; unfold rcell; simp only [ga_ne (show (21 : Nat) ≠ 16 by decide)]
    · show rcell _ 15 = rcell s 15; unfold rcell; simp only [ga_ne (show (23 : Nat) ≠ 16 by decide)]
    · show rcell _ 16 = rcell s 16; unfold rcell; simp only [ga_ne (show (24 : Nat) ≠ 16 by decide)]
    · show rcell _ 17 = rcell s 17; unfold rcell; simp only [ga_ne (show (25 : Nat) ≠ 16 by decide)]
    · show rcell _ 18 = rcell s 18; unfold rcell; simp only [ga_ne (show (26 : Nat) ≠ 16 by decide)]
    · show rcell _ 19 = rcell s 19; unfold rcell; simp only [ga_ne (show (30 : Nat) ≠ 16 by decide)]
    · show rcell _ 20 = rcell s 20; unfold rcell; simp only [ga_ne (show (31 : Nat) ≠ 16 by decide)]
    · show rcell _ 21 = rcell s 21; unfold rcell; simp only [ga_ne (show (46 : Nat) ≠ 16 by decide)]
    · show rcell _ 22 = rcell s 22; unfold rcell; simp only [ga_ne (show (47 : Nat) ≠ 16 by decide)]
    · show rcell _ 23 = rcell s 23; unfold rcell; simp only [ga_ne (show (48 : Nat) ≠ 16 by decide)]
  · have h1 : ∀ s' : RS, rcell s' p = none := fun s' => by unfold rcell; split <;> first | omega | rfl
    rw [h1, h1, if_neg]; intro z; have : rpos 16 = 9 := rfl; omega
theorem as16 {i : Int32} {x : Int32} : as_I (rh b m s) 0 (rr m 16) i x = (ix_ i 1100).map fun j => rh b m (ua s 16 j x) := by
  unfold as_I; rw [ar16]; simp only [Option.bind_some, up16]
theorem ar17 : ar_L (rh b m s) 1 (rr m 17) = some (ra m 17, 1100, gb s 17) := by
  rw [show rr m 17 = some (ra m 17) from rfl]; unfold ar_L; simp only [rhA (b := b) (m := m) (s := s) (k := 17) (by decide)]; rfl
theorem al17 {i : Int32} : al_L (rh b m s) 1 (rr m 17) i = (ix_ i 1100).map (gb s 17) := by
  unfold al_L; rw [ar17]; rfl
theorem up17 {j : Nat} {x : Int64} : up_A (rh b m s) (ra m 17) (1, 1100, .inr (.inl (va_up (gb s 17) j x))) = rh b m (ub s 17 j x) := by
  refine rh_up (by decide) rfl rfl fun p => ?_
  rcases (show p < 24 ∨ 24 ≤ p by omega) with h | h
  · have h' : p ∈ List.range 24 := List.mem_range.mpr h
    revert p
    refine fun p h h' => ?_
    rcases (show p = 0 ∨ p = 1 ∨ p = 2 ∨ p = 3 ∨ p = 4 ∨ p = 5 ∨ p = 6 ∨ p = 7 ∨ p = 8 ∨ p = 9 ∨ p = 10 ∨ p = 11 ∨ p = 12 ∨ p = 13 ∨ p = 14 ∨ p = 15 ∨ p = 16 ∨ p = 17 ∨ p = 18 ∨ p = 19 ∨ p = 20 ∨ p = 21 ∨ p = 22 ∨ p = 23 by omega) with rfl | rfl | rfl | rfl | rfl | rfl | rfl | rfl | rfl | rfl | rfl | rfl | rfl | rfl | rfl | rfl | rfl | rfl | rfl | rfl | rfl | rfl | rfl | rfl
    · rfl
    · rfl
    · rfl
    · rfl
    · rfl
    · rfl
    · rfl
    · rfl
    · rfl
    · rfl
    · show rcell _ 10 = some _; unfold rcell; simp only [gb_eq]
    · show rcell _ 11 = rcell s 11; unfold rcell; simp only [gb_ne (show (18 : Nat) ≠ 17 by decide)]
    · show rcell _ 12 = rcell s 12; unfold rcell; simp only [gb_ne (show (19 : Nat) ≠ 17 by decide)]
    · rfl
    · rfl
    · rfl
    · rfl
    · rfl
    · rfl
    · rfl
    · rfl
    · rfl
    · rfl
    · rfl
  · have h1 : ∀ s' : RS, rcell s' p = none := fun s' => by unfold rcell; split <;> first | omega | rfl
    rw [h1, h1, if_neg]; intro z; have : rpos 17 = 10 := rfl; omega
theorem as17 {i : Int32} {x : Int64} : as_L (rh b m s) 1 (rr m 17) i x = (ix_ i 1100).map fun j => rh b m (ub s 17 j x) := by
  unfold as_L; rw [ar17]; simp only [Option.bind_some, up17]
theorem ar18 : ar_L (rh b m s) 1 (rr m 18) = some (ra m 18, 1100, gb s 18) := by
  rw [show rr m 18 = some (ra m 18) from rfl]; unfold ar_L; simp only [rhA (b := b) (m := m) (s := s) (k := 18) (by decide)]; rfl
theorem al18 {i : Int32} : al_L (rh b m s) 1 (rr m 18) i = (ix_ i 1100).map (gb s 18) := by
  unfold al_L; rw [ar18]; rfl
theorem up18 {j : Nat} {x : Int64} : up_A (rh b m s) (ra m 18) (1, 1100, .inr (.inl (va_up (gb s 18) j x))) = rh b m (ub s 18 j x) := by
  refine rh_up (by decide) rfl rfl fun p => ?_
  rcases (show p < 24 ∨ 24 ≤ p by omega) with h | h
  · have h' : p ∈ List.range 24 := List.mem_range.mpr h
    revert p
    refine fun p h h' => ?_
    rcases (show p = 0 ∨ p = 1 ∨ p = 2 ∨ p = 3 ∨ p = 4 ∨ p = 5 ∨ p = 6 ∨ p = 7 ∨ p = 8 ∨ p = 9 ∨ p = 10 ∨ p = 11 ∨ p = 12 ∨ p = 13 ∨ p = 14 ∨ p = 15 ∨ p = 16 ∨ p = 17 ∨ p = 18 ∨ p = 19 ∨ p = 20 ∨ p = 21 ∨ p = 22 ∨ p = 23 by omega) with rfl | rfl | rfl | rfl | rfl | rfl | rfl | rfl | rfl | rfl | rfl | rfl | rfl | rfl | rfl | rfl | rfl | rfl | rfl | rfl | rfl | rfl | rfl | rfl
    · rfl
    · rfl
    · rfl
    · rfl
    · rfl
    · rfl
    · rfl
    · rfl
    · rfl
    · rfl
    · show rcell _ 10 = rcell s 10; unfold rcell; simp only [gb_ne (show (17 : Nat) ≠ 18 by decide)]
    · show rcell _ 11 = some _; unfold rcell; simp only [gb_eq]
    · show rcell _ 12 = rcell s 12; unfold rcell; simp only [gb_ne (show (19 : Nat) ≠ 18 by decide)]
    · rfl
    · rfl
    · rfl
    · rfl
    · rfl
    · rfl
    · rfl
    · rfl
    · rfl
    · rfl
    · rfl
  · have h1 : ∀ s' : RS, rcell s' p = none := fun s' => by unfold rcell; split <;> first | omega | rfl
    rw [h1, h1, if_neg]; intro z; have : rpos 18 = 11 := rfl; omega
theorem as18 {i : Int32} {x : Int64} : as_L (rh b m s) 1 (rr m 18) i x = (ix_ i 1100).map fun j => rh b m (ub s 18 j x) := by
  unfold as_L; rw [ar18]; simp only [Option.bind_some, up18]
theorem ar19 : ar_L (rh b m s) 1 (rr m 19) = some (ra m 19, 1100, gb s 19) := by
  rw [show rr m 19 = some (ra m 19) from rfl]; unfold ar_L; simp only [rhA (b := b) (m := m) (s := s) (k := 19) (by decide)]; rfl
theorem al19 {i : Int32} : al_L (rh b m s) 1 (rr m 19) i = (ix_ i 1100).map (gb s 19) := by
  unfold al_L; rw [ar19]; rfl
theorem up19 {j : Nat} {x : Int64} : up_A (rh b m s) (ra m 19) (1, 1100, .inr (.inl (va_up (gb s 19) j x))) = rh b m (ub s 19 j x) := by
  refine rh_up (by decide) rfl rfl fun p => ?_
  rcases (show p < 24 ∨ 24 ≤ p by omega) with h | h
  · have h' : p ∈ List.range 24 := List.mem_range.mpr h
    revert p
    refine fun p h h' => ?_
    rcases (show p = 0 ∨ p = 1 ∨ p = 2 ∨ p = 3 ∨ p = 4 ∨ p = 5 ∨ p = 6 ∨ p = 7 ∨ p = 8 ∨ p = 9 ∨ p = 10 ∨ p = 11 ∨ p = 12 ∨ p = 13 ∨ p = 14 ∨ p = 15 ∨ p = 16 ∨ p = 17 ∨ p = 18 ∨ p = 19 ∨ p = 20 ∨ p = 21 ∨ p = 22 ∨ p = 23 by omega) with rfl | rfl | rfl | rfl | rfl | rfl | rfl | rfl | rfl | rfl | rfl | rfl | rfl | rfl | rfl | rfl | rfl | rfl | rfl | rfl | rfl | rfl | rfl | rfl
    · rfl
    · rfl
    · rfl
    · rfl
    · rfl
    · rfl
    · rfl
    · rfl
    · rfl
    · rfl
    · show rcell _ 10 = rcell s 10; unfold rcell; simp only [gb_ne (show (17 : Nat) ≠ 19 by decide)]
    · show rcell _ 11 = rcell s 11; unfold rcell; simp only [gb_ne (show (18 : Nat) ≠ 19 by decide)]
    · show rcell _ 12 = some _; unfold rcell; simp only [gb_eq]
    · rfl
    · rfl
    · rfl
    · rfl
    · rfl
    · rfl
    · rfl
    · rfl
    · rfl
    · rfl
    · rfl
  · have h1 : ∀ s' : RS, rcell s' p = none := fun s' => by unfold rcell; split <;> first | omega | rfl
    rw [h1, h1, if_neg]; intro z; have : rpos 19 = 12 := rfl; omega
theorem as19 {i : Int32} {x : Int64} : as_L (rh b m s) 1 (rr m 19) i x = (ix_ i 1100).map fun j => rh b m (ub s 19 j x) := by
  unfold as_L; rw [ar19]; simp only [Option.bind_some, up19]
theorem ar20 : ar_I (rh b m s) 2 (rr m 20) = some (ra m 20, 1100, ga s 20) := by
  rw [show rr m 20 = some (ra m 20) from rfl]; unfold ar_I; simp only [rhA (b := b) (m := m) (s := s) (k := 20) (by decide)]; rfl
theorem al20 {i : Int32} : al_I (rh b m s) 2 (rr m 20) i = (ix_ i 1100).map (ga s 20) := by
  unfold al_I; rw [ar20]; rfl
theorem up20 {j : Nat} {x : Int32} : up_A (rh b m s) (ra m 20) (2, 1100, .inl (va_up (ga s 20) j x)) = rh b m (ua s 20 j x) := by
  refine rh_up (by decide) rfl rfl fun p => ?_
  rcases (show p < 24 ∨ 24 ≤ p by omega) with h | h
  · have h' : p ∈ List.range 24 := List.mem_range.mpr h
    revert p
    refine fun p h h' => ?_
    rcases (show p = 0 ∨ p = 1 ∨ p = 2 ∨ p = 3 ∨ p = 4 ∨ p = 5 ∨ p = 6 ∨ p = 7 ∨ p = 8 ∨ p = 9 ∨ p = 10 ∨ p = 11 ∨ p = 12 ∨ p = 13 ∨ p = 14 ∨ p = 15 ∨ p = 16 ∨ p = 17 ∨ p = 18 ∨ p = 19 ∨ p = 20 ∨ p = 21 ∨ p = 22 ∨ p = 23 by omega) with rfl | rfl | rfl | rfl | rfl | rfl | rfl | rfl | rfl | rfl | rfl | rfl | rfl | rfl | rfl | rfl | rfl | rfl | rfl | rfl | rfl | rfl | rfl | rfl
    · show rcell _ 0 = rcell s 0; unfold rcell; simp only [ga_ne (show (6 : Nat) ≠ 20 by decide)]
    · show rcell _ 1 = rcell s 1; unfold rcell; simp only [ga_ne (show (7 : Nat) ≠ 20 by decide)]
    · show rcell _ 2 = rcell s 2; unfold rcell; simp only [ga_ne (show (8 : Nat) ≠ 20 by decide)]
    · show rcell _ 3 = rcell s 3; unfold rcell; simp only [ga_ne (show (9 : Nat) ≠ 20 by decide)]
    · show rcell _ 4 = rcell s 4; unfold rcell; simp only [ga_ne (show (11 : Nat) ≠ 20 by decide)]
    · show rcell _ 5 = rcell s 5; unfold rcell; simp only [ga_ne (show (12 : Nat) ≠ 20 by decide)]
    · show rcell _ 6 = rcell s 6; unfold rcell; simp only [ga_ne (show (13 : Nat) ≠ 20 by decide)]
    · show rcell _ 7 = rcell s 7; unfold rcell; simp only [ga_ne (show (14 : Nat) ≠ 20 by decide)]
    · show rcell _ 8 = rcell s 8; unfold rcell; simp only [ga_ne (show (15 : Nat) ≠ 20 by decide)]
    · show rcell _ 9 = rcell s 9; unfold rcell; simp only [ga_ne (show (16 : Nat) ≠ 20 by decide)]
    · rfl
    · rfl
    · rfl
    · show rcell _ 13 = some _; unfold rcell; simp only [ga_eq]
    · show rcell _ 14 = rcell s 14; unfold rcell; simp only [ga_ne (show (21 : Nat) ≠ 20 by decide)]
    · show rcell _ 15 = rcell s 15; unfold rcell; simp only [ga_ne (show (23 : Nat) ≠ 20 by decide)]
    · show rcell _ 16 = rcell s 16; unfold rcell; simp only [ga_ne (show (24 : Nat) ≠ 20 by decide)]
    · show rcell _ 17 = rcell s 17; unfold rcell; simp only [ga_ne (show (25 : Nat) ≠ 20 by decide)]
    · show rcell _ 18 = rcell s 18; unfold rcell; simp only [ga_ne (show (26 : Nat) ≠ 20 by decide)]
    · show rcell _ 19 = rcell s 19; unfold rcell; simp only [ga_ne (show (30 : Nat) ≠ 20 by decide)]
    · show rcell _ 20 = rcell s 20; unfold rcell; simp only [ga_ne (show (31 : Nat) ≠ 20 by decide)]
    · show rcell _ 21 = rcell s 21; unfold rcell; simp only [ga_ne (show (46 : Nat) ≠ 20 by decide)]
    · show rcell _ 22 = rcell s 22; unfold rcell; simp only [ga_ne (show (47 : Nat) ≠ 20 by decide)]
    · show rcell _ 23 = rcell s 23; unfold rcell; simp only [ga_ne (show (48 : Nat) ≠ 20 by decide)]
  · have h1 : ∀ s' : RS, rcell s' p = none := fun s' => by unfold rcell; split <;> first | omega | rfl
    rw [h1, h1, if_neg]; intro z; have : rpos 20 = 13 := rfl; omega
theorem as20 {i : Int32} {x : Int32} : as_I (rh b m s) 2 (rr m 20) i x = (ix_ i 1100).map fun j => rh b m (ua s 20 j x) := by
  unfold as_I; rw [ar20]; simp only [Option.bind_some, up20]
theorem as20z0 {i : Int32} : as_Z (rh b m s) 2 (rr m 20) i 0 = (ix_ i 1100).map fun j => rh b m (ua s 20 j 0) := by
  unfold as_Z; rw [if_pos (by decide), as20]
theorem as20z1 {i : Int32} : as_Z (rh b m s) 2 (rr m 20) i 1 = (ix_ i 1100).map fun j => rh b m (ua s 20 j 1) := by
  unfold as_Z; rw [if_pos (by decide), as20]
theorem ar21 : ar_I (rh b m s) 2 (rr m 21) = some (ra m 21, 1100, ga s 21) := by
  rw [show rr m 21 = some (ra m 21) from rfl]; unfold ar_I; simp only [rhA (b := b) (m := m) (s := s) (k := 21) (by decide)]; rfl
theorem al21 {i : Int32} : al_I (rh b m s) 2 (rr m 21) i = (ix_ i 1100).map (ga s 21) := by
  unfold al_I; rw [ar21]; rfl
theorem up21 {j : Nat} {x : Int32} : up_A (rh b m s) (ra m 21) (2, 1100, .inl (va_up (ga s 21) j x)) = rh b m (ua s 21 j x) := by
  refine rh_up (by decide) rfl rfl fun p => ?_
  rcases (show p < 24 ∨ 24 ≤ p by omega) with h | h
  · have h' : p ∈ List.range 24 := List.mem_range.mpr h
    revert p
    refine fun p h h' => ?_
    rcases (show p = 0 ∨ p = 1 ∨ p = 2 ∨ p = 3 ∨ p = 4 ∨ p = 5 ∨ p = 6 ∨ p = 7 ∨ p = 8 ∨ p = 9 ∨ p = 10 ∨ p = 11 ∨ p = 12 ∨ p = 13 ∨ p = 14 ∨ p = 15 ∨ p = 16 ∨ p = 17 ∨ p = 18 ∨ p = 19 ∨ p = 20 ∨ p = 21 ∨ p = 22 ∨ p = 23 by omega) with rfl | rfl | rfl | rfl | rfl | rfl | rfl | rfl | rfl | rfl | rfl | rfl | rfl | rfl | rfl | rfl | rfl | rfl | rfl | rfl | rfl | rfl | rfl | rfl
    · show rcell _ 0 = rcell s 0; unfold rcell; simp only [ga_ne (show (6 : Nat) ≠ 21 by decide)]
    · show rcell _ 1 = rcell s 1; unfold rcell; simp only [ga_ne (show (7 : Nat) ≠ 21 by decide)]
    · show rcell _ 2 = rcell s 2; unfold rcell; simp only [ga_ne (show (8 : Nat) ≠ 21 by decide)]
    · show rcell _ 3 = rcell s 3; unfold rcell; simp only [ga_ne (show (9 : Nat) ≠ 21 by decide)]
    · show rcell _ 4 = rcell s 4; unfold rcell; simp only [ga_ne (show (11 : Nat) ≠ 21 by decide)]
    · show rcell _ 5 = rcell s 5; unfold rcell; simp only [ga_ne (show (12 : Nat) ≠ 21 by decide)]
    · show rcell _ 6 = rcell s 6; unfold rcell; simp only [ga_ne (show (13 : Nat) ≠ 21 by decide)]
    · show rcell _ 7 = rcell s 7; unfold rcell; simp only [ga_ne (show (14 : Nat) ≠ 21 by decide)]
    · show rcell _ 8 = rcell s 8; unfold rcell; simp only [ga_ne (show (15 : Nat) ≠ 21 by decide)]
    · show rcell _ 9 = rcell s 9; unfold rcell; simp only [ga_ne (show (16 : Nat) ≠ 21 by decide)]
    · rfl
    · rfl
    · rfl
    · show rcell _ 13 = rcell s 13; unfold rcell; simp only [ga_ne (show (20 : Nat) ≠ 21 by decide)]
    · show rcell _ 14 = some _; unfold rcell; simp only [ga_eq]
    · show rcell _ 15 = rcell s 15; unfold rcell; simp only [ga_ne (show (23 : Nat) ≠ 21 by decide)]
    · show rcell _ 16 = rcell s 16; unfold rcell; simp only [ga_ne (show (24 : Nat) ≠ 21 by decide)]
    · show rcell _ 17 = rcell s 17; unfold rcell; simp only [ga_ne (show (25 : Nat) ≠ 21 by decide)]
    · show rcell _ 18 = rcell s 18; unfold rcell; simp only [ga_ne (show (26 : Nat) ≠ 21 by decide)]
    · show rcell _ 19 = rcell s 19; unfold rcell; simp only [ga_ne (show (30 : Nat) ≠ 21 by decide)]
    · show rcell _ 20 = rcell s 20; unfold rcell; simp only [ga_ne (show (31 : Nat) ≠ 21 by decide)]
    · show rcell _ 21 = rcell s 21; unfold rcell; simp only [ga_ne (show (46 : Nat) ≠ 21 by decide)]
    · show rcell _ 22 = rcell s 22; unfold rcell; simp only [ga_ne (show (47 : Nat) ≠ 21 by decide)]
    · show rcell _ 23 = rcell s 23; unfold rcell; simp only [ga_ne (show (48 : Nat) ≠ 21 by decide)]
  · have h1 : ∀ s' : RS, rcell s' p = none := fun s' => by unfold rcell; split <;> first | omega | rfl
    rw [h1, h1, if_neg]; intro z; have : rpos 21 = 14 := rfl; omega
theorem as21 {i : Int32} {x : Int32} : as_I (rh b m s) 2 (rr m 21) i x = (ix_ i 1100).map fun j => rh b m (ua s 21 j x) := by
  unfold as_I; rw [ar21]; simp only [Option.bind_some, up21]
theorem as21z0 {i : Int32} : as_Z (rh b m s) 2 (rr m 21) i 0 = (ix_ i 1100).map fun j => rh b m (ua s 21 j 0) := by
  unfold as_Z; rw [if_pos (by decide), as21]
theorem as21z1 {i : Int32} : as_Z (rh b m s) 2 (rr m 21) i 1 = (ix_ i 1100).map fun j => rh b m (ua s 21 j 1) := by
  unfold as_Z; rw [if_pos (by decide), as21]
theorem ar23 : ar_I (rh b m s) 0 (rr m 23) = some (ra m 23, 32, ga s 23) := by
  rw [show rr m 23 = some (ra m 23) from rfl]; unfold ar_I; simp only [rhA (b := b) (m := m) (s := s) (k := 23) (by decide)]; rfl
theorem al23 {i : Int32} : al_I (rh b m s) 0 (rr m 23) i = (ix_ i 32).map (ga s 23) := by
  unfold al_I; rw [ar23]; rfl
theorem up23 {j : Nat} {x : Int32} : up_A (rh b m s) (ra m 23) (0, 32, .inl (va_up (ga s 23) j x)) = rh b m (ua s 23 j x) := by
  refine rh_up (by decide) rfl rfl fun p => ?_
  rcases (show p < 24 ∨ 24 ≤ p by omega) with h | h
  · have h' : p ∈ List.range 24 := List.mem_range.mpr h
    revert p
    refine fun p h h' => ?_
    rcases (show p = 0 ∨ p = 1 ∨ p = 2 ∨ p = 3 ∨ p = 4 ∨ p = 5 ∨ p = 6 ∨ p = 7 ∨ p = 8 ∨ p = 9 ∨ p = 10 ∨ p = 11 ∨ p = 12 ∨ p = 13 ∨ p = 14 ∨ p = 15 ∨ p = 16 ∨ p = 17 ∨ p = 18 ∨ p = 19 ∨ p = 20 ∨ p = 21 ∨ p = 22 ∨ p = 23 by omega) with rfl | rfl | rfl | rfl | rfl | rfl | rfl | rfl | rfl | rfl | rfl | rfl | rfl | rfl | rfl | rfl | rfl | rfl | rfl | rfl | rfl | rfl | rfl | rfl
    · show rcell _ 0 = rcell s 0; unfold rcell; simp only [ga_ne (show (6 : Nat) ≠ 23 by decide)]
    · show rcell _ 1 = rcell s 1; unfold rcell; simp only [ga_ne (show (7 : Nat) ≠ 23 by decide)]
    · show rcell _ 2 = rcell s 2; unfold rcell; simp only [ga_ne (show (8 : Nat) ≠ 23 by decide)]
    · show rcell _ 3 = rcell s 3; unfold rcell; simp only [ga_ne (show (9 : Nat) ≠ 23 by decide)]
    · show rcell _ 4 = rcell s 4; unfold rcell; simp only [ga_ne (show (11 : Nat) ≠ 23 by decide)]
    · show rcell _ 5 = rcell s 5; unfold rcell; simp only [ga_ne (show (12 : Nat) ≠ 23 by decide)]
    · show rcell _ 6 = rcell s 6; unfold rcell; simp only [ga_ne (show (13 : Nat) ≠ 23 by decide)]
    · show rcell _ 7 = rcell s 7; unfold rcell; simp only [ga_ne (show (14 : Nat) ≠ 23 by decide)]
    · show rcell _ 8 = rcell s 8; unfold rcell; simp only [ga_ne (show (15 : Nat) ≠ 23 by decide)]
    · show rcell _ 9 = rcell s 9; unfold rcell; simp only [ga_ne (show (16 : Nat) ≠ 23 by decide)]
    · rfl
    · rfl
    · rfl
    · show rcell _ 13 = rcell s 13; unfold rcell; simp only [ga_ne (show (20 : Nat) ≠ 23 by decide)]
    · show rcell _ 14 = rcell s 14; unfold rcell; simp only [ga_ne (show (21 : Nat) ≠ 23 by decide)]
    · show rcell _ 15 = some _; unfold rcell; simp only [ga_eq]
    · show rcell _ 16 = rcell s 16; unfold rcell; simp only [ga_ne (show (24 : Nat) ≠ 23 by decide)]
    · show rcell _ 17 = rcell s 17; unfold rcell; simp only [ga_ne (show (25 : Nat) ≠ 23 by decide)]
    · show rcell _ 18 = rcell s 18; unfold rcell; simp only [ga_ne (show (26 : Nat) ≠ 23 by decide)]
    · show rcell _ 19 = rcell s 19; unfold rcell; simp only [ga_ne (show (30 : Nat) ≠ 23 by decide)]
    · show rcell _ 20 = rcell s 20; unfold rcell; simp only [ga_ne (show (31 : Nat) ≠ 23 by decide)]
    · show rcell _ 21 = rcell s 21; unfold rcell; simp only [ga_ne (show (46 : Nat) ≠ 23 by decide)]
    · show rcell _ 22 = rcell s 22; unfold rcell; simp only [ga_ne (show (47 : Nat) ≠ 23 by decide)]
    · show rcell _ 23 = rcell s 23; unfold rcell; simp only [ga_ne (show (48 : Nat) ≠ 23 by decide)]
  · have h1 : ∀ s' : RS, rcell s' p = none := fun s' => by unfold rcell; split <;> first | omega | rfl
    rw [h1, h1, if_neg]; intro z; have : rpos 23 = 15 := rfl; omega
theorem as23 {i : Int32} {x : Int32} : as_I (rh b m s) 0 (rr m 23) i x = (ix_ i 32).map fun j => rh b m (ua s 23 j x) := by
  unfold as_I; rw [ar23]; simp only [Option.bind_some, up23]
theorem ar24 : ar_I (rh b m s) 0 (rr m 24) = some (ra m 24, 2, ga s 24) := by
  rw [show rr m 24 = some (ra m 24) from rfl]; unfold ar_I; simp only [rhA (b := b) (m := m) (s := s) (k := 24) (by decide)]; rfl
theorem al24 {i : Int32} : al_I (rh b m s) 0 (rr m 24) i = (ix_ i 2).map (ga s 24) := by
  unfold al_I; rw [ar24]; rfl
theorem up24 {j : Nat} {x : Int32} : up_A (rh b m s) (ra m 24) (0, 2, .inl (va_up (ga s 24) j x)) = rh b m (ua s 24 j x) := by
  refine rh_up (by decide) rfl rfl fun p => ?_
  rcases (show p < 24 ∨ 24 ≤ p by omega) with h | h
  · have h' : p ∈ List.range 24 := List.mem_range.mpr h
    revert p
    refine fun p h h' => ?_
    rcases (show p = 0 ∨ p = 1 ∨ p = 2 ∨ p = 3 ∨ p = 4 ∨ p = 5 ∨ p = 6 ∨ p = 7 ∨ p = 8 ∨ p = 9 ∨ p = 10 ∨ p = 11 ∨ p = 12 ∨ p = 13 ∨ p = 14 ∨ p = 15 ∨ p = 16 ∨ p = 17 ∨ p = 18 ∨ p = 19 ∨ p = 20 ∨ p = 21 ∨ p = 22 ∨ p = 23 by omega) with rfl | rfl | rfl | rfl | rfl | rfl | rfl | rfl | rfl | rfl | rfl | rfl | rfl | rfl | rfl | rfl | rfl | rfl | rfl | rfl | rfl | rfl | rfl | rfl
    · show rcell _ 0 = rcell s 0; unfold rcell; simp only [ga_ne (show (6 : Nat) ≠ 24 by decide)]
    · show rcell _ 1 = rcell s 1; unfold rcell; simp only [ga_ne (show (7 : Nat) ≠ 24 by decide)]
    · show rcell _ 2 = rcell s 2; unfold rcell; simp only [ga_ne (show (8 : Nat) ≠ 24 by decide)]
    · show rcell _ 3 = rcell s 3; unfold rcell; simp only [ga_ne (show (9 : Nat) ≠ 24 by decide)]
    · show rcell _ 4 = rcell s 4; unfold rcell; simp only [ga_ne (show (11 : Nat) ≠ 24 by decide)]
    · show rcell _ 5 = rcell s 5; unfold rcell; simp only [ga_ne (show (12 : Nat) ≠ 24 by decide)]
    · show rcell _ 6 = rcell s 6; unfold rcell; simp only [ga_ne (show (13 : Nat) ≠ 24 by decide)]
    · show rcell _ 7 = rcell s 7; unfold rcell; simp only [ga_ne (show (14 : Nat) ≠ 24 by decide)]
    · show rcell _ 8 = rcell s 8; unfold rcell; simp only [ga_ne (show (15 : Nat) ≠ 24 by decide)]
    · show rcell _ 9 = rcell s 9; unfold rcell; simp only [ga_ne (show (16 : Nat) ≠ 24 by decide)]
    · rfl
    · rfl
    · rfl
    · show rcell _ 13 = rcell s 13; unfold rcell; simp only [ga_ne (show (20 : Nat) ≠ 24 by decide)]
    · show rcell _ 14 = rcell s 14; unfold rcell; simp only [ga_ne (show (21 : Nat) ≠ 24 by decide)]
    · show rcell _ 15 = rcell s 15; unfold rcell; simp only [ga_ne (show (23 : Nat) ≠ 24 by decide)]
    · show rcell _ 16 = some _; unfold rcell; simp only [ga_eq]
    · show rcell _ 17 = rcell s 17; unfold rcell; simp only [ga_ne (show (25 : Nat) ≠ 24 by decide)]
    · show rcell _ 18 = rcell s 18; unfold rcell; simp only [ga_ne (show (26 : Nat) ≠ 24 by decide)]
    · show rcell _ 19 = rcell s 19; unfold rcell; simp only [ga_ne (show (30 : Nat) ≠ 24 by decide)]
    · show rcell _ 20 = rcell s 20; unfold rcell; simp only [ga_ne (show (31 : Nat) ≠ 24 by decide)]
    · show rcell _ 21 = rcell s 21; unfold rcell; simp only [ga_ne (show (46 : Nat) ≠ 24 by decide)]
    · show rcell _ 22 = rcell s 22; unfold rcell; simp only [ga_ne (show (47 : Nat) ≠ 24 by decide)]
    · show rcell _ 23 = rcell s 23; unfold rcell; simp only [ga_ne (show (48 : Nat) ≠ 24 by decide)]
  · have h1 : ∀ s' : RS, rcell s' p = none := fun s' => by unfold rcell; split <;> first | omega | rfl
    rw [h1, h1, if_neg]; intro z; have : rpos 24 = 16 := rfl; omega
theorem as24 {i : Int32} {x : Int32} : as_I (rh b m s) 0 (rr m 24) i x = (ix_ i 2).map fun j => rh b m (ua s 24 j x) := by
  unfold as_I; rw [ar24]; simp only [Option.bind_some, up24]
theorem ar25 : ar_I (rh b m s) 0 (rr m 25) = some (ra m 25, 8, ga s 25) := by
  rw [show rr m 25 = some (ra m 25) from rfl]; unfold ar_I; simp only [rhA (b := b) (m := m) (s := s) (k := 25) (by decide)]; rfl
theorem al25 {i : Int32} : al_I (rh b m s) 0 (rr m 25) i = (ix_ i 8).map (ga s 25) := by
  unfold al_I; rw [ar25]; rfl
theorem up25 {j : Nat} {x : Int32} : up_A (rh b m s) (ra m 25) (0, 8, .inl (va_up (ga s 25) j x)) = rh b m (ua s 25 j x) := by
  refine rh_up (by decide) rfl rfl fun p => ?_
  rcases (show p < 24 ∨ 24 ≤ p by omega) with h | h
  · have h' : p ∈ List.range 24 := List.mem_range.mpr h
    revert p
    refine fun p h h' => ?_
    rcases (show p = 0 ∨ p = 1 ∨ p = 2 ∨ p = 3 ∨ p = 4 ∨ p = 5 ∨ p = 6 ∨ p = 7 ∨ p = 8 ∨ p = 9 ∨ p = 10 ∨ p = 11 ∨ p = 12 ∨ p = 13 ∨ p = 14 ∨ p = 15 ∨ p = 16 ∨ p = 17 ∨ p = 18 ∨ p = 19 ∨ p = 20 ∨ p = 21 ∨ p = 22 ∨ p = 23 by omega) with rfl | rfl | rfl | rfl | rfl | rfl | rfl | rfl | rfl | rfl | rfl | rfl | rfl | rfl | rfl | rfl | rfl | rfl | rfl | rfl | rfl | rfl | rfl | rfl
    · show rcell _ 0 = rcell s 0; unfold rcell; simp only [ga_ne (show (6 : Nat) ≠ 25 by decide)]
    · show rcell _ 1 = rcell s 1; unfold rcell; simp only [ga_ne (show (7 : Nat) ≠ 25 by decide)]
    · show rcell _ 2 = rcell s 2; unfold rcell; simp only [ga_ne (show (8 : Nat) ≠ 25 by decide)]
    · show rcell _ 3 = rcell s 3; unfold rcell; simp only [ga_ne (show (9 : Nat) ≠ 25 by decide)]
    · show rcell _ 4 = rcell s 4; unfold rcell; simp only [ga_ne (show (11 : Nat) ≠ 25 by decide)]
    · show rcell _ 5 = rcell s 5; unfold rcell; simp only [ga_ne (show (12 : Nat) ≠ 25 by decide)]
    · show rcell _ 6 = rcell s 6; unfold rcell; simp only [ga_ne (show (13 : Nat) ≠ 25 by decide)]
    · show rcell _ 7 = rcell s 7; unfold rcell; simp only [ga_ne (show (14 : Nat) ≠ 25 by decide)]
    · show rcell _ 8 = rcell s 8; unfold rcell; simp only [ga_ne (show (15 : Nat) ≠ 25 by decide)]
    · show rcell _ 9 = rcell s 9; unfold rcell; simp only [ga_ne (show (16 : Nat) ≠ 25 by decide)]
    · rfl
    · rfl
    · rfl
    · show rcell _ 13 = rcell s 13; unfold rcell; simp only [ga_ne (show (20 : Nat) ≠ 25 by decide)]
    · show rcell _ 14 = rcell s 14; unfold rcell; simp only [ga_ne (show (21 : Nat) ≠ 25 by decide)]
    · show rcell _ 15 = rcell s 15; unfold rcell; simp only [ga_ne (show (23 : Nat) ≠ 25 by decide)]
    · show rcell _ 16 = rcell s 16; unfold rcell; simp only [ga_ne (show (24 : Nat) ≠ 25 by decide)]
    · show rcell _ 17 = some _; unfold rcell; simp only [ga_eq]
    · show rcell _ 18 = rcell s 18; unfold rcell; simp only [ga_ne (show (26 : Nat) ≠ 25 by decide)]
    · show rcell _ 19 = rcell s 19; unfold rcell; simp only [ga_ne (show (30 : Nat) ≠ 25 by decide)]
    · show rcell _ 20 = rcell s 20; unfold rcell; simp only [ga_ne (show (31 : Nat) ≠ 25 by decide)]
    · show rcell _ 21 = rcell s 21; unfold rcell; simp only [ga_ne (show (46 : Nat) ≠ 25 by decide)]
    · show rcell _ 22 = rcell s 22; unfold rcell; simp only [ga_ne (show (47 : Nat) ≠ 25 by decide)]
    · show rcell _ 23 = rcell s 23; unfold rcell; simp only [ga_ne (show (48 : Nat) ≠ 25 by decide)]
  · have h1 : ∀ s' : RS, rcell s' p = none := fun s' => by unfold rcell; split <;> first | omega | rfl
    rw [h1, h1, if_neg]; intro z; have : rpos 25 = 17 := rfl; omega
theorem as25 {i : Int32} {x : Int32} : as_I (rh b m s) 0 (rr m 25) i x = (ix_ i 8).map fun j => rh b m (ua s 25 j x) := by
  unfold as_I; rw [ar25]; simp only [Option.bind_some, up25]
theorem ar26 : ar_I (rh b m s) 0 (rr m 26) = some (ra m 26, 8, ga s 26) := by
  rw [show rr m 26 = some (ra m 26) from rfl]; unfold ar_I; simp only [rhA (b := b) (m := m) (s := s) (k := 26) (by decide)]; rfl
theorem al26 {i : Int32} : al_I (rh b m s) 0 (rr m 26) i = (ix_ i 8).map (ga s 26) := by
  unfold al_I; rw [ar26]; rfl
theorem up26 {j : Nat} {x : Int32} : up_A (rh b m s) (ra m 26) (0, 8, .inl (va_up (ga s 26) j x)) = rh b m (ua s 26 j x) := by
  refine rh_up (by decide) rfl rfl fun p => ?_
  rcases (show p < 24 ∨ 24 ≤ p by omega) with h | h
  · have h' : p ∈ List.range 24 := List.mem_range.mpr h
    revert p
    refine fun p h h' => ?_
    rcases (show p = 0 ∨ p = 1 ∨ p = 2 ∨ p = 3 ∨ p = 4 ∨ p = 5 ∨ p = 6 ∨ p = 7 ∨ p = 8 ∨ p = 9 ∨ p = 10 ∨ p = 11 ∨ p = 12 ∨ p = 13 ∨ p = 14 ∨ p = 15 ∨ p = 16 ∨ p = 17 ∨ p = 18 ∨ p = 19 ∨ p = 20 ∨ p = 21 ∨ p = 22 ∨ p = 23 by omega) with rfl | rfl | rfl | rfl | rfl | rfl | rfl | rfl | rfl | rfl | rfl | rfl | rfl | rfl | rfl | rfl | rfl | rfl | rfl | rfl | rfl | rfl | rfl | rfl
    · show rcell _ 0 = rcell s 0; unfold rcell; simp only [ga_ne (show (6 : Nat) ≠ 26 by decide)]
    · show rcell _ 1 = rcell s 1; unfold rcell; simp only [ga_ne (show (7 : Nat) ≠ 26 by decide)]
    · show rcell _ 2 = rcell s 2; unfold rcell; simp only [ga_ne (show (8 : Nat) ≠ 26 by decide)]
    · show rcell _ 3 = rcell s 3; unfold rcell; simp only [ga_ne (show (9 : Nat) ≠ 26 by decide)]
    · show rcell _ 4 = rcell s 4; unfold rcell; simp only [ga_ne (show (11 : Nat) ≠ 26 by decide)]
    · show rcell _ 5 = rcell s 5; unfold rcell; simp only [ga_ne (show (12 : Nat) ≠ 26 by decide)]
    · show rcell _ 6 = rcell s 6; unfold rcell; simp only [ga_ne (show (13 : Nat) ≠ 26 by decide)]
    · show rcell _ 7 = rcell s 7; unfold rcell; simp only [ga_ne (show (14 : Nat) ≠ 26 by decide)]
    · show rcell _ 8 = rcell s 8; unfold rcell; simp only [ga_ne (show (15 : Nat) ≠ 26 by decide)]
    · show rcell _ 9 = rcell s 9; unfold rcell; simp only [ga_ne (show (16 : Nat) ≠ 26 by decide)]
    · rfl
    · rfl
    · rfl
    · show rcell _ 13 = rcell s 13; unfold rcell; simp only [ga_ne (show (20 : Nat) ≠ 26 by decide)]
    · show rcell _ 14 = rcell s 14; unfold rcell; simp only [ga_ne (show (21 : Nat) ≠ 26 by decide)]
    · show rcell _ 15 = rcell s 15; unfold rcell; simp only [ga_ne (show (23 : Nat) ≠ 26 by decide)]
    · show rcell _ 16 = rcell s 16; unfold rcell; simp only [ga_ne (show (24 : Nat) ≠ 26 by decide)]
    · show rcell _ 17 = rcell s 17; unfold rcell; simp only [ga_ne (show (25 : Nat) ≠ 26 by decide)]
    · show rcell _ 18 = some _; unfold rcell; simp only [ga_eq]
    · show rcell _ 19 = rcell s 19; unfold rcell; simp only [ga_ne (show (30 : Nat) ≠ 26 by decide)]
    · show rcell _ 20 = rcell s 20; unfold rcell; simp only [ga_ne (show (31 : Nat) ≠ 26 by decide)]
    · show rcell _ 21 = rcell s 21; unfold rcell; simp only [ga_ne (show (46 : Nat) ≠ 26 by decide)]
    · show rcell _ 22 = rcell s 22; unfold rcell; simp only [ga_ne (show (47 : Nat) ≠ 26 by decide)]
    · show rcell _ 23 = rcell s 23; unfold rcell; simp only [ga_ne (show (48 : Nat) ≠ 26 by decide)]
  · have h1 : ∀ s' : RS, rcell s' p = none := fun s' => by unfold rcell; split <;> first | omega | rfl
    rw [h1, h1, if_neg]; intro z; have : rpos 26 = 18 := rfl; omega
theorem as26 {i : Int32} {x : Int32} : as_I (rh b m s) 0 (rr m 26) i x = (ix_ i 8).map fun j => rh b m (ua s 26 j x) := by
  unfold as_I; rw [ar26]; simp only [Option.bind_some, up26]
theorem ar30 : ar_I (rh b m s) 0 (rr m 30) = some (ra m 30, 32768, ga s 30) := by
  rw [show rr m 30 = some (ra m 30) from rfl]; unfold ar_I; simp only [rhA (b := b) (m := m) (s := s) (k := 30) (by decide)]; rfl
theorem al30 {i : Int32} : al_I (rh b m s) 0 (rr m 30) i = (ix_ i 32768).map (ga s 30) := by
  unfold al_I; rw [ar30]; rfl
theorem up30 {j : Nat} {x : Int32} : up_A (rh b m s) (ra m 30) (0, 32768, .inl (va_up (ga s 30) j x)) = rh b m (ua s 30 j x) := by
  refine rh_up (by decide) rfl rfl fun p => ?_
  rcases (show p < 24 ∨ 24 ≤ p by omega) with h | h
  · have h' : p ∈ List.range 24 := List.mem_range.mpr h
    revert p
    refine fun p h h' => ?_
    rcases (show p = 0 ∨ p = 1 ∨ p = 2 ∨ p = 3 ∨ p = 4 ∨ p = 5 ∨ p = 6 ∨ p = 7 ∨ p = 8 ∨ p = 9 ∨ p = 10 ∨ p = 11 ∨ p = 12 ∨ p = 13 ∨ p = 14 ∨ p = 15 ∨ p = 16 ∨ p = 17 ∨ p = 18 ∨ p = 19 ∨ p = 20 ∨ p = 21 ∨ p = 22 ∨ p = 23 by omega) with rfl | rfl | rfl | rfl | rfl | rfl | rfl | rfl | rfl | rfl | rfl | rfl | rfl | rfl | rfl | rfl | rfl | rfl | rfl | rfl | rfl | rfl | rfl | rfl
    · show rcell _ 0 = rcell s 0; unfold rcell; simp only [ga_ne (show (6 : Nat) ≠ 30 by decide)]
    · show rcell _ 1 = rcell s 1; unfold rcell; simp only [ga_ne (show (7 : Nat) ≠ 30 by decide)]
    · show rcell _ 2 = rcell s 2; unfold rcell; simp only [ga_ne (show (8 : Nat) ≠ 30 by decide)]
    · show rcell _ 3 = rcell s 3; unfold rcell; simp only [ga_ne (show (9 : Nat) ≠ 30 by decide)]
    · show rcell _ 4 = rcell s 4; unfold rcell; simp only [ga_ne (show (11 : Nat) ≠ 30 by decide)]
    · show rcell _ 5 = rcell s 5; unfold rcell; simp only [ga_ne (show (12 : Nat) ≠ 30 by decide)]
    · show rcell _ 6 = rcell s 6; unfold rcell; simp only [ga_ne (show (13 : Nat) ≠ 30 by decide)]
    · show rcell _ 7 = rcell s 7; unfold rcell; simp only [ga_ne (show (14 : Nat) ≠ 30 by decide)]
    · show rcell _ 8 = rcell s 8; unfold rcell; simp only [ga_ne (show (15 : Nat) ≠ 30 by decide)]
    · show rcell _ 9 = rcell s 9; unfold rcell; simp only [ga_ne (show (16 : Nat) ≠ 30 by decide)]
    · rfl
    · rfl
    · rfl
    · show rcell _ 13 = rcell s 13; unfold rcell; simp only [ga_ne (show (20 : Nat) ≠ 30 by decide)]
    · show rcell _ 14 = rcell s 14; unfold rcell; simp only [ga_ne (show (21 : Nat) ≠ 30 by decide)]
    · show rcell _ 15 = rcell s 15; unfold rcell; simp only [ga_ne (show (23 : Nat) ≠ 30 by decide)]
    · show rcell _ 16 = rcell s 16; unfold rcell; simp only [ga_ne (show (24 : Nat) ≠ 30 by decide)]
    · show rcell _ 17 = rcell s 17; unfold rcell; simp only [ga_ne (show (25 : Nat) ≠ 30 by decide)]
    · show rcell _ 18 = rcell s 18; unfold rcell; simp only [ga_ne (show (26 : Nat) ≠ 30 by decide)]
    · show rcell _ 19 = some _; unfold rcell; simp only [ga_eq]
    · show rcell _ 20 = rcell s 20; unfold rcell; simp only [ga_ne (show (31 : Nat) ≠ 30 by decide)]
    · show rcell _ 21 = rcell s 21; unfold rcell; simp only [ga_ne (show (46 : Nat) ≠ 30 by decide)]
    · show rcell _ 22 = rcell s 22; unfold rcell; simp only [ga_ne (show (47 : Nat) ≠ 30 by decide)]
    · show rcell _ 23 = rcell s 23; unfold rcell; simp only [ga_ne (show (48 : Nat) ≠ 30 by decide)]
  · have h1 : ∀ s' : RS, rcell s' p = none := fun s' => by unfold rcell; split <;> first | omega | rfl
    rw [h1, h1, if_neg]; intro z; have : rpos 30 = 19 := rfl; omega
theorem as30 {i : Int32} {x : Int32} : as_I (rh b m s) 0 (rr m 30) i x = (ix_ i 32768).map fun j => rh b m (ua s 30 j x) := by
  unfold as_I; rw [ar30]; simp only [Option.bind_some, up30]
theorem ar31 : ar_I (rh b m s) 0 (rr m 31) = some (ra m 31, 4, ga s 31) := by
  rw [show rr m 31 = some (ra m 31) from rfl]; unfold ar_I; simp only [rhA (b := b) (m := m) (s := s) (k := 31) (by decide)]; rfl
theorem al31 {i : Int32} : al_I (rh b m s) 0 (rr m 31) i = (ix_ i 4).map (ga s 31) := by
  unfold al_I; rw [ar31]; rfl
theorem up31 {j : Nat} {x : Int32} : up_A (rh b m s) (ra m 31) (0, 4, .inl (va_up (ga s 31) j x)) = rh b m (ua s 31 j x) := by
  refine rh_up (by decide) rfl rfl fun p => ?_
  rcases (show p < 24 ∨ 24 ≤ p by omega) with h | h
  · have h' : p ∈ List.range 24 := List.mem_range.mpr h
    revert p
    refine fun p h h' => ?_
    rcases (show p = 0 ∨ p = 1 ∨ p = 2 ∨ p = 3 ∨ p = 4 ∨ p = 5 ∨ p = 6 ∨ p = 7 ∨ p = 8 ∨ p = 9 ∨ p = 10 ∨ p = 11 ∨ p = 12 ∨ p = 13 ∨ p = 14 ∨ p = 15 ∨ p = 16 ∨ p = 17 ∨ p = 18 ∨ p = 19 ∨ p = 20 ∨ p = 21 ∨ p = 22 ∨ p = 23 by omega) with rfl | rfl | rfl | rfl | rfl | rfl | rfl | rfl | rfl | rfl | rfl | rfl | rfl | rfl | rfl | rfl | rfl | rfl | rfl | rfl | rfl | rfl | rfl | rfl
    · show rcell _ 0 = rcell s 0; unfold rcell; simp only [ga_ne (show (6 : Nat) ≠ 31 by decide)]
    · show rcell _ 1 = rcell s 1; unfold rcell; simp only [ga_ne (show (7 : Nat) ≠ 31 by decide)]
    · show rcell _ 2 = rcell s 2; unfold rcell; simp only [ga_ne (show (8 : Nat) ≠ 31 by decide)]
    · show rcell _ 3 = rcell s 3; unfold rcell; simp only [ga_ne (show (9 : Nat) ≠ 31 by decide)]
    · show rcell _ 4 = rcell s 4; unfold rcell; simp only [ga_ne (show (11 : Nat) ≠ 31 by decide)]
    · show rcell _ 5 = rcell s 5; unfold rcell; simp only [ga_ne (show (12 : Nat) ≠ 31 by decide)]
    · show rcell _ 6 = rcell s 6; unfold rcell; simp only [ga_ne (show (13 : Nat) ≠ 31 by decide)]
    · show rcell _ 7 = rcell s 7; unfold rcell; simp only [ga_ne (show (14 : Nat) ≠ 31 by decide)]
    · show rcell _ 8 = rcell s 8; unfold rcell; simp only [ga_ne (show (15 : Nat) ≠ 31 by decide)]
    · show rcell _ 9 = rcell s 9; unfold rcell; simp only [ga_ne (show (16 : Nat) ≠ 31 by decide)]
    · rfl
    · rfl
    · rfl
    · show rcell _ 13 = rcell s 13; unfold rcell; simp only [ga_ne (show (20 : Nat) ≠ 31 by decide)]
    · show rcell _ 14 = rcell s 14; unfold rcell; simp only [ga_ne (show (21 : Nat) ≠ 31 by decide)]
    · show rcell _ 15 = rcell s 15; unfold rcell; simp only [ga_ne (show (23 : Nat) ≠ 31 by decide)]
    · show rcell _ 16 = rcell s 16; unfold rcell; simp only [ga_ne (show (24 : Nat) ≠ 31 by decide)]
    · show rcell _ 17 = rcell s 17; unfold rcell; simp only [ga_ne (show (25 : Nat) ≠ 31 by decide)]
    · show rcell _ 18 = rcell s 18; unfold rcell; simp only [ga_ne (show (26 : Nat) ≠ 31 by decide)]
    · show rcell _ 19 = rcell s 19; unfold rcell; simp only [ga_ne (show (30 : Nat) ≠ 31 by decide)]
    · show rcell _ 20 = some _; unfold rcell; simp only [ga_eq]
    · show rcell _ 21 = rcell s 21; unfold rcell; simp only [ga_ne (show (46 : Nat) ≠ 31 by decide)]
    · show rcell _ 22 = rcell s 22; unfold rcell; simp only [ga_ne (show (47 : Nat) ≠ 31 by decide)]
    · show rcell _ 23 = rcell s 23; unfold rcell; simp only [ga_ne (show (48 : Nat) ≠ 31 by decide)]
  · have h1 : ∀ s' : RS, rcell s' p = none := fun s' => by unfold rcell; split <;> first | omega | rfl
    rw [h1, h1, if_neg]; intro z; have : rpos 31 = 20 := rfl; omega
theorem as31 {i : Int32} {x : Int32} : as_I (rh b m s) 0 (rr m 31) i x = (ix_ i 4).map fun j => rh b m (ua s 31 j x) := by
  unfold as_I; rw [ar31]; simp only [Option.bind_some, up31]
theorem ar46 : ar_I (rh b m s) 0 (rr m 46) = some (ra m 46, 500, ga s 46) := by
  rw [show rr m 46 = some (ra m 46) from rfl]; unfold ar_I; simp only [rhA (b := b) (m := m) (s := s) (k := 46) (by decide)]; rfl
theorem al46 {i : Int32} : al_I (rh b m s) 0 (rr m 46) i = (ix_ i 500).map (ga s 46) := by
  unfold al_I; rw [ar46]; rfl
theorem up46 {j : Nat} {x : Int32} : up_A (rh b m s) (ra m 46) (0, 500, .inl (va_up (ga s 46) j x)) = rh b m (ua s 46 j x) := by
  refine rh_up (by decide) rfl rfl fun p => ?_
  rcases (show p < 24 ∨ 24 ≤ p by omega) with h | h
  · have h' : p ∈ List.range 24 := List.mem_range.mpr h
    revert p
    refine fun p h h' => ?_
    rcases (show p = 0 ∨ p = 1 ∨ p = 2 ∨ p = 3 ∨ p = 4 ∨ p = 5 ∨ p = 6 ∨ p = 7 ∨ p = 8 ∨ p = 9 ∨ p = 10 ∨ p = 11 ∨ p = 12 ∨ p = 13 ∨ p = 14 ∨ p = 15 ∨ p = 16 ∨ p = 17 ∨ p = 18 ∨ p = 19 ∨ p = 20 ∨ p = 21 ∨ p = 22 ∨ p = 23 by omega) with rfl | rfl | rfl | rfl | rfl | rfl | rfl | rfl | rfl | rfl | rfl | rfl | rfl | rfl | rfl | rfl | rfl | rfl | rfl | rfl | rfl | rfl | rfl | rfl
    · show rcell _ 0 = rcell s 0; unfold rcell; simp only [ga_ne (show (6 : Nat) ≠ 46 by decide)]
    · show rcell _ 1 = rcell s 1; unfold rcell; simp only [ga_ne (show (7 : Nat) ≠ 46 by decide)]
    · show rcell _ 2 = rcell s 2; unfold rcell; simp only [ga_ne (show (8 : Nat) ≠ 46 by decide)]
    · show rcell _ 3 = rcell s 3; unfold rcell; simp only [ga_ne (show (9 : Nat) ≠ 46 by decide)]
    · show rcell _ 4 = rcell s 4; unfold rcell; simp only [ga_ne (show (11 : Nat) ≠ 46 by decide)]
    · show rcell _ 5 = rcell s 5; unfold rcell; simp only [ga_ne (show (12 : Nat) ≠ 46 by decide)]
    · show rcell _ 6 = rcell s 6; unfold rcell; simp only [ga_ne (show (13 : Nat) ≠ 46 by decide)]
    · show rcell _ 7 = rcell s 7; unfold rcell; simp only [ga_ne (show (14 : Nat) ≠ 46 by decide)]
    · show rcell _ 8 = rcell s 8; unfold rcell; simp only [ga_ne (show (15 : Nat) ≠ 46 by decide)]
    · show rcell _ 9 = rcell s 9; unfold rcell; simp only [ga_ne (show (16 : Nat) ≠ 46 by decide)]
    · rfl
    · rfl
    · rfl
    · show rcell _ 13 = rcell s 13; unfold rcell; simp only [ga_ne (show (20 : Nat) ≠ 46 by decide)]
    · show rcell _ 14 = rcell s 14; unfold rcell; simp only [ga_ne (show (21 : Nat) ≠ 46 by decide)]
    · show rcell _ 15 = rcell s 15; unfold rcell; simp only [ga_ne (show (23 : Nat) ≠ 46 by decide)]
    · show rcell _ 16 = rcell s 16; unfold rcell; simp only [ga_ne (show (24 : Nat) ≠ 46 by decide)]
    · show rcell _ 17 = rcell s 17; unfold rcell; simp only [ga_ne (show (25 : Nat) ≠ 46 by decide)]
    · show rcell _ 18 = rcell s 18; unfold rcell; simp only [ga_ne (show (26 : Nat) ≠ 46 by decide)]
    · show rcell _ 19 = rcell s 19; unfold rcell; simp only [ga_ne (show (30 : Nat) ≠ 46 by decide)]
    · show rcell _ 20 = rcell s 20; unfold rcell; simp only [ga_ne (show (31 : Nat) ≠ 46 by decide)]
    · show rcell _ 21 = some _; unfold rcell; simp only [ga_eq]
    · show rcell _ 22 = rcell s 22; unfold rcell; simp only [ga_ne (show (47 : Nat) ≠ 46 by decide)]
    · show rcell _ 23 = rcell s 23; unfold rcell; simp only [ga_ne (show (48 : Nat) ≠ 46 by decide)]
  · have h1 : ∀ s' : RS, rcell s' p = none := fun s' => by unfold rcell; split <;> first | omega | rfl
    rw [h1, h1, if_neg]; intro z; have : rpos 46 = 21 := rfl; omega
theorem as46 {i : Int32} {x : Int32} : as_I (rh b m s) 0 (rr m 46) i x = (ix_ i 500).map fun j => rh b m (ua s 46 j x) := by
  unfold as_I; rw [ar46]; simp only [Option.bind_some, up46]
theorem ar47 : ar_I (rh b m s) 0 (rr m 47) = some (ra m 47, 500, ga s 47) := by
  rw [show rr m 47 = some (ra m 47) from rfl]; unfold ar_I; simp only [rhA (b := b) (m := m) (s := s) (k := 47) (by decide)]; rfl
theorem al47 {i : Int32} : al_I (rh b m s) 0 (rr m 47) i = (ix_ i 500).map (ga s 47) := by
  unfold al_I; rw [ar47]; rfl
theorem up47 {j : Nat} {x : Int32} : up_A (rh b m s) (ra m 47) (0, 500, .inl (va_up (ga s 47) j x)) = rh b m (ua s 47 j x) := by
  refine rh_up (by decide) rfl rfl fun p => ?_
  rcases (show p < 24 ∨ 24 ≤ p by omega) with h | h
  · have h' : p ∈ List.range 24 := List.mem_range.mpr h
    revert p
    refine fun p h h' => ?_
    rcases (show p = 0 ∨ p = 1 ∨ p = 2 ∨ p = 3 ∨ p = 4 ∨ p = 5 ∨ p = 6 ∨ p = 7 ∨ p = 8 ∨ p = 9 ∨ p = 10 ∨ p = 11 ∨ p = 12 ∨ p = 13 ∨ p = 14 ∨ p = 15 ∨ p = 16 ∨ p = 17 ∨ p = 18 ∨ p = 19 ∨ p = 20 ∨ p = 21 ∨ p = 22 ∨ p = 23 by omega) with rfl | rfl | rfl | rfl | rfl | rfl | rfl | rfl | rfl | rfl | rfl | rfl | rfl | rfl | rfl | rfl | rfl | rfl | rfl | rfl | rfl | rfl | rfl | rfl
    · show rcell _ 0 = rcell s 0; unfold rcell; simp only [ga_ne (show (6 : Nat) ≠ 47 by decide)]
    · show rcell _ 1 = rcell s 1; unfold rcell; simp only [ga_ne (show (7 : Nat) ≠ 47 by decide)]
    · show rcell _ 2 = rcell s 2; unfold rcell; simp only [ga_ne (show (8 : Nat) ≠ 47 by decide)]
    · show rcell _ 3 = rcell s 3; unfold rcell; simp only [ga_ne (show (9 : Nat) ≠ 47 by decide)]
    · show rcell _ 4 = rcell s 4; unfold rcell; simp only [ga_ne (show (11 : Nat) ≠ 47 by decide)]
    · show rcell _ 5 = rcell s 5; unfold rcell; simp only [ga_ne (show (12 : Nat) ≠ 47 by decide)]
    · show rcell _ 6 = rcell s 6; unfold rcell; simp only [ga_ne (show (13 : Nat) ≠ 47 by decide)]
    · show rcell _ 7 = rcell s 7; unfold rcell; simp only [ga_ne (show (14 : Nat) ≠ 47 by decide)]
    · show rcell _ 8 = rcell s 8; unfold rcell; simp only [ga_ne (show (15 : Nat) ≠ 47 by decide)]
    · show rcell _ 9 = rcell s 9; unfold rcell; simp only [ga_ne (show (16 : Nat) ≠ 47 by decide)]
    · rfl
    · rfl
    · rfl
    · show rcell _ 13 = rcell s 13; unfold rcell; simp only [ga_ne (show (20 : Nat) ≠ 47 by decide)]
    · show rcell _ 14 = rcell s 14; unfold rcell; simp only [ga_ne (show (21 : Nat) ≠ 47 by decide)]
    · show rcell _ 15 = rcell s 15; unfold rcell; simp only [ga_ne (show (23 : Nat) ≠ 47 by decide)]
    · show rcell _ 16 = rcell s 16; unfold rcell; simp only [ga_ne (show (24 : Nat) ≠ 47 by decide)]
    · show rcell _ 17 = rcell s 17; unfold rcell; simp only [ga_ne (show (25 : Nat) ≠ 47 by decide)]
    · show rcell _ 18 = rcell s 18; unfold rcell; simp only [ga_ne (show (26 : Nat) ≠ 47 by decide)]
    · show rcell _ 19 = rcell s 19; unfold rcell; simp only [ga_ne (show (30 : Nat) ≠ 47 by decide)]
    · show rcell _ 20 = rcell s 20; unfold rcell; simp only [ga_ne (show (31 : Nat) ≠ 47 by decide)]
    · show rcell _ 21 = rcell s 21; unfold rcell; simp only [ga_ne (show (46 : Nat) ≠ 47 by decide)]
    · show rcell _ 22 = some _; unfold rcell; simp only [ga_eq]
    · show rcell _ 23 = rcell s 23; unfold rcell; simp only [ga_ne (show (48 : Nat) ≠ 47 by decide)]
  · have h1 : ∀ s' : RS, rcell s' p = none := fun s' => by unfold rcell; split <;> first | omega | rfl
    rw [h1, h1, if_neg]; intro z; have : rpos 47 = 22 := rfl; omega
theorem as47 {i : Int32} {x : Int32} : as_I (rh b m s) 0 (rr m 47) i x = (ix_ i 500).map fun j => rh b m (ua s 47 j x) := by
  unfold as_I; rw [ar47]; simp only [Option.bind_some, up47]
theorem ar48 : ar_I (rh b m s) 0 (rr m 48) = some (ra m 48, 500, ga s 48) := by
  rw [show rr m 48 = some (ra m 48) from rfl]; unfold ar_I; simp only [rhA (b := b) (m := m) (s := s) (k := 48) (by decide)]; rfl
theorem al48 {i : Int32} : al_I (rh b m s) 0 (rr m 48) i = (ix_ i 500).map (ga s 48) := by
  unfold al_I; rw [ar48]; rfl
theorem up48 {j : Nat} {x : Int32} : up_A (rh b m s) (ra m 48) (0, 500, .inl (va_up (ga s 48) j x)) = rh b m (ua s 48 j x) := by
  refine rh_up (by decide) rfl rfl fun p => ?_
  rcases (show p < 24 ∨ 24 ≤ p by omega) with h | h
  · have h' : p ∈ List.range 24 := List.mem_range.mpr h
    revert p
    refine fun p h h' => ?_
    rcases (show p = 0 ∨ p = 1 ∨ p = 2 ∨ p = 3 ∨ p = 4 ∨ p = 5 ∨ p = 6 ∨ p = 7 ∨ p = 8 ∨ p = 9 ∨ p = 10 ∨ p = 11 ∨ p = 12 ∨ p = 13 ∨ p = 14 ∨ p = 15 ∨ p = 16 ∨ p = 17 ∨ p = 18 ∨ p = 19 ∨ p = 20 ∨ p = 21 ∨ p = 22 ∨ p = 23 by omega) with rfl | rfl | rfl | rfl | rfl | rfl | rfl | rfl | rfl | rfl | rfl | rfl | rfl | rfl | rfl | rfl | rfl | rfl | rfl | rfl | rfl | rfl | rfl | rfl
    · show rcell _ 0 = rcell s 0; unfold rcell; simp only [ga_ne (show (6 : Nat) ≠ 48 by decide)]
    · show rcell _ 1 = rcell s 1; unfold rcell; simp only [ga_ne (show (7 : Nat) ≠ 48 by decide)]
    · show rcell _ 2 = rcell s 2; unfold rcell; simp only [ga_ne (show (8 : Nat) ≠ 48 by decide)]
    · show rcell _ 3 = rcell s 3; unfold rcell; simp only [ga_ne (show (9 : Nat) ≠ 48 by decide)]
    · show rcell _ 4 = rcell s 4; unfold rcell; simp only [ga_ne (show (11 : Nat) ≠ 48 by decide)]
    · show rcell _ 5 = rcell s 5; unfold rcell; simp only [ga_ne (show (12 : Nat) ≠ 48 by decide)]
    · show rcell _ 6 = rcell s 6; unfold rcell; simp only [ga_ne (show (13 : Nat) ≠ 48 by decide)]
    · show rcell _ 7 = rcell s 7; unfold rcell; simp only [ga_ne (show (14 : Nat) ≠ 48 by decide)]
    · show rcell _ 8 = rcell s 8; unfold rcell; simp only [ga_ne (show (15 : Nat) ≠ 48 by decide)]
    · show rcell _ 9 = rcell s 9; unfold rcell; simp only [ga_ne (show (16 : Nat) ≠ 48 by decide)]
    · rfl
    · rfl
    · rfl
    · show rcell _ 13 = rcell s 13; unfold rcell; simp only [ga_ne (show (20 : Nat) ≠ 48 by decide)]
    · show rcell _ 14 = rcell s 14; unfold rcell; simp only [ga_ne (show (21 : Nat) ≠ 48 by decide)]
    · show rcell _ 15 = rcell s 15; unfold rcell; simp only [ga_ne (show (23 : Nat) ≠ 48 by decide)]
    · show rcell _ 16 = rcell s 16; unfold rcell; simp only [ga_ne (show (24 : Nat) ≠ 48 by decide)]
    · show rcell _ 17 = rcell s 17; unfold rcell; simp only [ga_ne (show (25 : Nat) ≠ 48 by decide)]
    · show rcell _ 18 = rcell s 18; unfold rcell; simp only [ga_ne (show (26 : Nat) ≠ 48 by decide)]
    · show rcell _ 19 = rcell s 19; unfold rcell; simp only [ga_ne (show (30 : Nat) ≠ 48 by decide)]
    · show rcell _ 20 = rcell s 20; unfold rcell; simp only [ga_ne (show (31 : Nat) ≠ 48 by decide)]
    · show rcell _ 21 = rcell s 21; unfold rcell; simp only [ga_ne (show (46 : Nat) ≠ 48 by decide)]
    · show rcell _ 22 = rcell s 22; unfold rcell; simp only [ga_ne (show (47 : Nat) ≠ 48 by decide)]
    · show rcell _ 23 = some _; unfold rcell; simp only [ga_eq]
  · have h1 : ∀ s' : RS, rcell s' p = none := fun s' => by unfold rcell; split <;> first | omega | rfl
    rw [h1, h1, if_neg]; intro z; have : rpos 48 = 23 := rfl; omega
theorem as48 {i : Int32} {x : Int32} : as_I (rh b m s) 0 (rr m 48) i x = (ix_ i 500).map fun j => rh b m (ua s 48 j x) := by
  unfold as_I; rw [ar48]; simp only [Option.bind_some, up48]
end RH
theorem ixN {e n : Nat} (h : e < n) (hn : n < 2 ^ 31) : ix_ (nI e) n = some e := by
  unfold ix_
  rw [if_neg (nI_in h hn), nI_clamp (by omega)]
