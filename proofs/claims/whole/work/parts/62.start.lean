/-! THE FIRST STATE -/
theorem im_div {mx d : Nat} (h5 : mx ≤ 5000) (h1 : 1 ≤ mx) (hd : 0 < d) (hd' : d < 2 ^ 31) : ∃ w, 1 ≤ w ∧ w ≤ mx ∧ imax_ 1 (nI mx / nI d) = nI w := by
  have hq : mx / d ≤ mx := Nat.div_le_self _ _
  rw [pk_div (by omega) hd hd']
  generalize mx / d = q at hq
  by_cases h : 1 ≤ q
  · refine ⟨q, h, hq, im1.1 ?_⟩
    exact nI_le (a := 1) h (by omega)
  · refine ⟨1, by omega, by omega, ?_⟩
    rw [im1.2]; · rfl
    exact nI_ge (b := 1) (by omega) (by omega)
theorem nib_0 (q : Nat) : nib 0 q = 0 := by
  unfold nib
  rw [show (0 : Int32).toBitVec.toNat = 0 from rfl, Nat.zero_div]
section ST
variable {c m mx z : Nat} {T σ : Hp} {s : RS} {v2 v3 : Int32}
def outH (c : Nat) (σ : Hp) : Hp := nw_A (bmp (c + 47) σ) (1, (1 : Int32).toNatClampNeg, .inr (.inl (fun _ => 0)))
theorem outA (hr : rel c T σ) {q : Nat} (hq : q < 47) : hp_A (outH c σ) (c + q) = hp_A T q := by
  show (if c + q = c + 47 then _ else hp_A σ (c + q)) = _
  rw [if_neg (by omega), hr.2.2.2.2.2]
theorem outR (hr : rel c T σ) {ci k q v : Nat} (h : hp_R T ci k q = some v) : hp_R (outH c σ) ci k (c + q) = some (c + v) := (hr.2.2.2.2.1 ci k q).trans (by rw [h]; rfl)
theorem outR0 (hr : rel c T σ) {ci k q : Nat} (h : hp_R T ci k q = none) : hp_R (outH c σ) ci k (c + q) = none := (hr.2.2.2.2.1 ci k q).trans (by rw [h]; rfl)
theorem outC (hr : rel c T σ) {q x : Nat} (h : hp_C T q = some x) : hp_C (outH c σ) (c + q) = some x := (hr.2.1 q).trans h
theorem outI (hr : rel c T σ) {ci k q : Nat} {x : Int32} (h : hp_I T ci k q = x) : hp_I (outH c σ) ci k (c + q) = x := (hr.2.2.1 ci k q).trans h
theorem st_SK (hr : rel c T σ) (hC : TC T) (hR : TR T) : SK (outH c σ) c := by
  obtain ⟨n0, c0, c3, c5, c7, c10, c14, c15, c17, c18, c19, c20, c21⟩ := hC
  obtain ⟨r0, r1, r2, r3, r4, r5, r6, r7, r8, r9, r10, r11, r12, r13, r14, r15, r16, r17, r18, r19, r20⟩ := hR
  exact ⟨outC hr c0, outR hr r0, outR hr r1, outR hr r2, outR hr r3, outR hr r4, outR hr r5, outR hr r6, outR hr r7, outR hr r8, outR hr r9, outC hr c3, outC hr c5, outC hr c7, outC hr c10, outC hr c14, outC hr c21, outR hr r10, outR hr r11, outR hr r12, outR hr r13, outR hr r14, outR hr r15, outR hr r16⟩
theorem st_SC (hr : rel c T σ) (hI : TI T mx z v2 v3) (hs : RP m mx z v2 v3 s) : SCa (outH c σ) c s ∧ SCb (outH c σ) c s := by
  obtain ⟨g, gl0, -⟩ := hs
  obtain ⟨i1, i2, i3, i4, i5, i6, i7, l8, i9, i10, i11, i12, i13, i14, i15, i16, i17, i18, i19, i20, i21, i22, i23, i24, i25, i26, i27⟩ := hI
  have g35 : gi s 35 = 1 := (g 35).trans rfl
  have g41 : gi s 41 = 0 := (g 41).trans rfl
  have g42 : gi s 42 = 0 := (g 42).trans rfl
  have g43 : gi s 43 = 0 := (g 43).trans rfl
  have g44 : gi s 44 = 0 := (g 44).trans rfl
  have g28 : gi s 28 = 0 := (g 28).trans rfl
  have g37 : gi s 37 = 0 := (g 37).trans rfl
  have g38 : gi s 38 = 0 := (g 38).trans rfl
  have g39 : gi s 39 = 0 := (g 39).trans rfl
  have g40 : gi s 40 = 0 := (g 40).trans rfl
  have g34 : gi s 34 = 0 := (g 34).trans rfl
  have g36 : gi s 36 = 1 := (g 36).trans rfl
  have g1 : gi s 1 = nI mx := (g 1).trans rfl
  have g2 : gi s 2 = posI v2 := (g 2).trans rfl
  have g3 : gi s 3 = posI v3 := (g 3).trans rfl
  have g32 : gi s 32 = imax_ 1 (nI mx / 100) := (g 32).trans rfl
  have g33 : gi s 33 = imax_ 1 (nI mx / 16) := (g 33).trans rfl
  refine ⟨⟨?_, ?_, ?_, ?_, ?_, ?_, ?_, ?_, ?_, ?_, ?_⟩, ⟨?_, ?_, ?_, ?_, ?_, ?_, ?_, ?_, ?_⟩⟩
  · rw [g35]; exact outI (q := 0) hr i1
  · rw [g41]; exact outI (q := 0) hr i2
  · rw [g42]; exact outI (q := 0) hr i3
  · rw [g43]; exact outI (q := 0) hr i4
  · rw [g44]; exact outI (q := 0) hr i5
  · rw [g2, outI hr i6]
  · rw [g3, outI hr i7]
  · rw [gl0]; exact (hr.2.2.2.1 4 2 14).trans l8
  · rw [g1]; exact outI hr i9
  · rw [g32]; exact outI hr i10
  · rw [g28, outI hr i11, outI hr i12]; rfl
  · rw [g1]; exact outI hr i15
  · rw [g1]; exact outI hr i16
  · rw [g37]; exact outI hr i17
  · rw [g38]; exact outI hr i18
  · rw [g37, g39]; exact outI hr i19
  · rw [g37, g38, g39, g40]; exact outI hr i20
  · rw [g34]; exact outI hr i21
  · rw [g33]; exact outI hr i22
  · rw [g36]; exact outI hr i23
theorem st_mid (hr : rel c T σ) (hC : TC T) (hR : TR T) (hI : TI T mx z v2 v3) (hA : TA T z) (hz : zok z) (hs : RP m mx z v2 v3 s) : MP (outH c σ) c (fun _ => 0) s ∧ WY (outH c σ) c (fun _ => 0) 0 s ∧ LGt (outH c σ) c s ∧ CTT (outH c σ) c s z (fun _ => 0) := by
  obtain ⟨g, gl0, g6, g31, ga0⟩ := hs
  obtain ⟨n0, c0, c3, c5, c7, c10, c14, c15, c17, c18, c19, c20, c21⟩ := hC
  obtain ⟨r0, r1, r2, r3, r4, r5, r6, r7, r8, r9, r10, r11, r12, r13, r14, r15, r16, r17, r18, r19, r20⟩ := hR
  obtain ⟨i1, i2, i3, i4, i5, i6, i7, l8, i9, i10, i11, i12, i13, i14, i15, i16, i17, i18, i19, i20, i21, i22, i23, i24, i25, i26, i27⟩ := hI
  obtain ⟨a1, a2, a4, a6, a8, a9, a11, a12, a13, a16⟩ := hA
  have f : ∀ k, k ≠ 6 → k ≠ 31 → ga s k = fun _ => 0 := fun k h1 h2 => funext (ga0 k h1 h2)
  have g45 : gi s 45 = 0 := (g 45).trans rfl
  have g29 : gi s 29 = 0 := (g 29).trans rfl
  have g4 : gi s 4 = nI z := (g 4).trans rfl
  refine ⟨⟨fun _ => none, (outA hr (by omega)).trans a1, fun k hk => ?_⟩, ⟨fun _ => none, (outA hr (by omega)).trans a2, fun k hk => ?_⟩, ⟨?_, ⟨0, by omega, ?_⟩, ?_, ?_, ?_⟩, ⟨outC hr c15, outR hr r17, outI hr i25, g4, ?_, (outA hr (by omega)).trans a16, fun i j hi hj => ?_, hz, g31⟩⟩
  · rw [mpo_none (g6 k hk)]; rfl
  · exact Or.inl ⟨ga0 7 (by decide) (by decide) k, rfl⟩
  · rw [g45]; exact outI hr i24
  · rw [g45]; rfl
  · rw [f 46 (by decide) (by decide)]; exact (outA hr (by omega)).trans a11
  · rw [f 47 (by decide) (by decide)]; exact (outA hr (by omega)).trans a12
  · rw [f 48 (by decide) (by decide)]; exact (outA hr (by omega)).trans a13
  · rw [g29]; exact outI hr i26
  · rw [ga0 30 (by decide) (by decide)]
    unfold cF
    rw [nib_0]; rfl
theorem st_WF (h1 : 1 ≤ mx) (h5 : mx ≤ 5000) (hs : RP m mx z v2 v3 s) : WFa s 0 ∧ WFb s 0 0 (fun _ => 0) := by
  obtain ⟨g, gl0, g6, g31, ga0⟩ := hs
  refine ⟨⟨fun e he => absurd he (by omega), fun e he => absurd he (by omega), fun k hk => Or.inl (g6 k hk), fun e he => absurd he (by omega), fun e k he => absurd he (by omega), fun e he => absurd he (by omega)⟩, ?_⟩
  obtain ⟨w, w1, w2, w3⟩ := im_div (d := 100) h5 h1 (by decide) (by decide)
  obtain ⟨u, u1, u2, u3⟩ := im_div (d := 16) h5 h1 (by decide) (by decide)
  have pp : ∀ v : Int32, 0 ≤ posI v := fun v => by
    unfold posI
    by_cases h : 0 ≤ v
    · rw [if_pos h]; exact h
    · rw [if_neg h]; decide
  refine ⟨by rw [gl0]; exact ⟨by decide, by decide⟩, ⟨mx, w, u, 0, 0, 0, (g 1).trans rfl, h1, h5, ((g 32).trans rfl).trans w3, w1, w2, ((g 33).trans rfl).trans u3, u1, by omega, (g 34).trans rfl, by omega, (g 39).trans rfl, (g 40).trans rfl, by omega⟩, Or.inr ((g 36).trans rfl), ?_, ?_, by omega, by omega, fun e he => ga0 12 (by decide) (by decide) e, fun k hk => absurd hk (show ¬ (0 : Int32) = 1 by decide), (g 0).trans rfl⟩
  · rw [show gi s 2 = posI v2 from (g 2).trans rfl]; exact pp v2
  · rw [show gi s 3 = posI v3 from (g 3).trans rfl]; exact pp v3
theorem st_RI (hr : rel c T σ) (hC : TC T) (hR : TR T) (h18 : T7 T 18) (h19 : T7 T 19) (h20 : T7 T 20) {es : Nat → Nat} {wt : Nat → Int32} : RI (outH c σ) c es 0 wt (fun _ => []) := by
  obtain ⟨n0, c0, c3, c5, c7, c10, c14, c15, c17, c18, c19, c20, c21⟩ := hC
  obtain ⟨r0, r1, r2, r3, r4, r5, r6, r7, r8, r9, r10, r11, r12, r13, r14, r15, r16, r17, r18, r19, r20⟩ := hR
  have one : ∀ q, hp_C T q = some 7 → T7 T q → Chn (outH c σ) (c + q) [] ∧ hp_I (outH c σ) 7 2 (c + q) = 0 := fun q hc h => ⟨⟨outC hr hc, outR0 hr h.1, outR0 hr h.2.1, outI hr h.2.2.2, True.intro, List.nodup_nil⟩, outI hr h.2.2.1⟩
  refine ⟨⟨outC hr c17, outR hr r18, outR hr r19, outR hr r20⟩, fun r hr' => ?_, fun _ _ _ _ _ e he => absurd he (by simp), fun _ _ e he => absurd he (by simp), fun e he => absurd he (by omega), fun e he => absurd he (by omega), fun e d he => absurd he (by omega)⟩
  rcases in3_or hr' with rfl | rfl | rfl
  · exact one 18 c18 h18
  · exact one 19 c19 h19
  · exact one 20 c20 h20
theorem start_ok (hr : rel c T σ) (hC : TC T) (hR : TR T) (h18 : T7 T 18) (h19 : T7 T 19) (h20 : T7 T 20) (hI : TI T mx z v2 v3) (hA : TA T z) (hz : zok z) (h1 : 1 ≤ mx) (h5 : mx ≤ 5000) (hs : RP m mx z v2 v3 s) : SS c (c + 47) 0 (outH c σ) s := by
  obtain ⟨p1, p2⟩ := st_SC hr hI hs
  obtain ⟨q1, q2, q3, q4⟩ := st_mid hr hC hR hI hA hz hs
  obtain ⟨u1, u2⟩ := st_WF h1 h5 hs
  obtain ⟨g, gl0, g6, g31, ga0⟩ := hs
  obtain ⟨i1, i2, i3, i4, i5, i6, i7, l8, i9, i10, i11, i12, i13, i14, i15, i16, i17, i18, i19, i20, i21, i22, i23, i24, i25, i26, i27⟩ := hI
  obtain ⟨a1, a2, a4, a6, a8, a9, a11, a12, a13, a16⟩ := hA
  have hN : hp_N (outH c σ) = c + 48 := rfl
  refine ⟨fun _ => 0, fun _ => 0, 0, z, fun _ => 0, fun _ => [], 0, by omega, ⟨st_SK hr hC hR, p1, p2, fun e he => absurd he (by omega), q1, q2, q3, q4, ⟨⟨fun _ => 0, ?_⟩, ?_⟩, ⟨by rw [hN]; omega, fun e he => absurd he (by omega)⟩, u1, u2⟩, st_RI hr hC hR h18 h19 h20, ?_, ?_, ?_, ?_⟩
  · show (if c + 47 = c + 47 then _ else _) = _
    rw [if_pos rfl]; rfl
  · show c + 21 < c + 47
    omega
  · exact ⟨(g 10).trans rfl, by omega, fun e he => absurd he (by omega), fun r _ e he => absurd he (by simp), fun r _ => List.nodup_nil, fun _ => 0, 0, (gl0 22).trans rfl, by omega, fun r _ e he => absurd he (by simp), fun r _ => List.Pairwise.nil⟩
  · exact ⟨0, fun _ => 0, fun _ => none, by omega, by omega, ga0 24 (by decide) (by decide) 0, outI hr i13, (outA (q := 4) hr (by omega)).trans a4, fun j _ hj => absurd hj (by omega)⟩
  · exact ⟨0, fun _ => 0, fun _ => none, by omega, by omega, ga0 24 (by decide) (by decide) 1, outI hr i14, (outA (q := 6) hr (by omega)).trans a6, fun j _ hj => absurd hj (by omega)⟩
  · refine ⟨by omega, by omega, (g 27).trans rfl, outI hr i27, ?_, fun _ => 0, fun _ => 0, fun _ => none, (outA hr (by omega)).trans a8, fun j _ hj => absurd hj (by omega), fun j _ hj => absurd hj (by omega), fun j l _ hj => absurd hj (by omega), fun e r he => absurd he (by omega)⟩
    rw [show ga s 25 = fun _ => 0 from funext (ga0 25 (by decide) (by decide))]
    exact (outA hr (by omega)).trans a9
end ST
