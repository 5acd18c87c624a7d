/-! arrays of the class's world -/
theorem alI {σ : Hp} {t a n j : Nat} {f : Nat → Int32} {i : Int32} (h : hp_A σ a = some (t, n, .inl f)) (hi : ix_ i n = some j) : al_I σ t (some a) i = some (f j) := by
  simp [al_I, ar_I, h, hi]
theorem asI {σ : Hp} {t a n j : Nat} {f : Nat → Int32} {i x : Int32} (h : hp_A σ a = some (t, n, .inl f)) (hi : ix_ i n = some j) : as_I σ t (some a) i x = some (up_A σ a (t, n, .inl (va_up f j x))) := by
  simp [as_I, ar_I, h, hi]
theorem alR {σ : Hp} {t a n j : Nat} {f : Nat → Option Nat} {i : Int32} (h : hp_A σ a = some (t, n, .inr (.inr (.inr (.inr f))))) (hi : ix_ i n = some j) : al_R σ t (some a) i = some (f j) := by
  simp [al_R, ar_R, h, hi]
theorem asR {σ : Hp} {t ci a n j e : Nat} {f : Nat → Option Nat} {i : Int32} (h : hp_A σ a = some (t, n, .inr (.inr (.inr (.inr f))))) (hi : ix_ i n = some j) (he : hp_C σ e = some ci) : as_R σ t ci (some a) i (some e) = some (up_A σ a (t, n, .inr (.inr (.inr (.inr (va_up f j (some e))))))) := by
  simp [as_R, ar_R, h, hi, isO he]
theorem asR0 {σ : Hp} {t ci a n j : Nat} {f : Nat → Option Nat} {i : Int32} (h : hp_A σ a = some (t, n, .inr (.inr (.inr (.inr f))))) (hi : ix_ i n = some j) : as_R σ t ci (some a) i none = some (up_A σ a (t, n, .inr (.inr (.inr (.inr (va_up f j none)))))) := by
  simp [as_R, ar_R, h, hi]
theorem alN {σ : Hp} {a n t : Nat} {y : ((Nat → Int32) ⊕ (Nat → Int64) ⊕ (Nat → UInt32) ⊕ (Nat → UInt64) ⊕ (Nat → Option Nat))} (h : hp_A σ a = some (t, n, y)) : al_N σ (some a) = some (nI n) := by
  simp [al_N, h]; rfl
/-! THE COUNTS -/
def nib (w : Int32) (q : Nat) : Nat := w.toBitVec.toNat / 16 ^ q % 16
theorem nib_lt (w : Int32) (q : Nat) : nib w q < 16 := Nat.mod_lt _ (by decide)
theorem w_lt (w : Int32) : w.toBitVec.toNat < 4294967296 := w.toBitVec.isLt
theorem c8 {q : Nat} (h : q < 8) : q = 0 ∨ q = 1 ∨ q = 2 ∨ q = 3 ∨ q = 4 ∨ q = 5 ∨ q = 6 ∨ q = 7 := by omega
theorem nib_get (w : Int32) {q : Nat} (h : q < 8) : iushr_ w (nI (q * 4)) &&& 15 = nI (nib w q) := by
  rw [pk_and _ 4 (by decide)]
  unfold iushr_ nib
  rcases c8 h with rfl | rfl | rfl | rfl | rfl | rfl | rfl | rfl
  · rw [pk_ushr w _ 0 (by decide)]
  · rw [pk_ushr w _ 4 (by decide)]
  · rw [pk_ushr w _ 8 (by decide)]
  · rw [pk_ushr w _ 12 (by decide)]
  · rw [pk_ushr w _ 16 (by decide)]
  · rw [pk_ushr w _ 20 (by decide)]
  · rw [pk_ushr w _ 24 (by decide)]
  · rw [pk_ushr w _ 28 (by decide)]
theorem tn_add (x y : Int32) : (x + y).toBitVec.toNat = (x.toBitVec.toNat + y.toBitVec.toNat) % 4294967296 := by
  rw [Int32.toBitVec_add, BitVec.toNat_add]
theorem shl_q {q : Nat} (h : q < 8) : (1 : Int32) <<< (nI (q * 4) &&& 31) = nI (16 ^ q) := by
  rcases c8 h with rfl | rfl | rfl | rfl | rfl | rfl | rfl | rfl <;> decide
theorem pow16 {q : Nat} (h : q < 8) : 16 ^ q < 4294967296 := by
  rcases c8 h with rfl | rfl | rfl | rfl | rfl | rfl | rfl | rfl <;> decide
theorem nib_add (w : Int32) {q p : Nat} (h : q < 8) (hp : p < 8) (hl : nib w q < 15) : nib (w + (1 <<< (nI (q * 4) &&& 31))) p = if p = q then nib w q + 1 else nib w p := by
  rw [shl_q h]
  unfold nib at *
  have hw := w_lt w
  rw [tn_add, pk_tn (n := 16 ^ q) (pow16 h)]
  generalize w.toBitVec.toNat = x at *
  rcases c8 h with rfl | rfl | rfl | rfl | rfl | rfl | rfl | rfl <;> rcases c8 hp with rfl | rfl | rfl | rfl | rfl | rfl | rfl | rfl <;> simp at hl ⊢ <;> omega
theorem tn_and (x y : Int32) : (x &&& y).toBitVec.toNat = x.toBitVec.toNat &&& y.toBitVec.toNat := by
  rw [Int32.toBitVec_and, BitVec.toNat_and]
theorem nib_and (x y : Int32) (q : Nat) : nib (x &&& y) q = nib x q &&& nib y q := by
  unfold nib
  rw [tn_and, show (16 : Nat) ^ q = 2 ^ (4 * q) by rw [show (16 : Nat) = 2 ^ 4 from rfl, ← Nat.pow_mul], ← Nat.shiftRight_eq_div_pow, ← Nat.shiftRight_eq_div_pow, ← Nat.shiftRight_eq_div_pow, Nat.shiftRight_and_distrib, show (16 : Nat) = 2 ^ 4 from rfl, Nat.and_mod_two_pow]
/-- a word halved, nibble by nibble -/
def hv (w : Int32) : Int32 := iushr_ w 1 &&& 2004318071
theorem nib_hv (w : Int32) {q : Nat} (h : q < 8) : nib (hv w) q = nib w q / 2 := by
  unfold hv
  rw [nib_and]
  have h7 : nib 2004318071 q = 2 ^ 3 - 1 := by
    rcases c8 h with rfl | rfl | rfl | rfl | rfl | rfl | rfl | rfl <;> decide
  rw [h7, Nat.and_two_pow_sub_one_eq_mod]
  unfold nib iushr_
  rw [pk_ushr w _ 1 (by decide)]
  generalize w.toBitVec.toNat = x
  rcases c8 h with rfl | rfl | rfl | rfl | rfl | rfl | rfl | rfl <;> simp <;> omega
/-- the odd nibbles of a word -/
def odds (w : Int32) : Nat := nib w 0 % 2 + nib w 1 % 2 + nib w 2 % 2 + nib w 3 % 2 + nib w 4 % 2 + nib w 5 % 2 + nib w 6 % 2 + nib w 7 % 2
def w8 (k : Nat) : Nat := k % 2 + 16 * (k / 2 % 2) + 256 * (k / 4 % 2) + 4096 * (k / 8 % 2) + 65536 * (k / 16 % 2) + 1048576 * (k / 32 % 2) + 16777216 * (k / 64 % 2) + 268435456 * (k / 128 % 2)
def n8 (k : Nat) : Nat := k % 2 + k / 2 % 2 + k / 4 % 2 + k / 8 % 2 + k / 16 % 2 + k / 32 % 2 + k / 64 % 2 + k / 128 % 2
def bcv (v0 : Int32) : Int32 := (((((((v0 - ((iushr_ v0 1) &&& 1431655765)) &&& 858993459) + ((iushr_ (v0 - ((iushr_ v0 1) &&& 1431655765)) 2) &&& 858993459)) + (iushr_ (((v0 - ((iushr_ v0 1) &&& 1431655765)) &&& 858993459) + ((iushr_ (v0 - ((iushr_ v0 1) &&& 1431655765)) 2) &&& 858993459)) 4)) &&& 252645135) + (iushr_ (((((v0 - ((iushr_ v0 1) &&& 1431655765)) &&& 858993459) + ((iushr_ (v0 - ((iushr_ v0 1) &&& 1431655765)) 2) &&& 858993459)) + (iushr_ (((v0 - ((iushr_ v0 1) &&& 1431655765)) &&& 858993459) + ((iushr_ (v0 - ((iushr_ v0 1) &&& 1431655765)) 2) &&& 858993459)) 4)) &&& 252645135) 8)) + (iushr_ ((((((v0 - ((iushr_ v0 1) &&& 1431655765)) &&& 858993459) + ((iushr_ (v0 - ((iushr_ v0 1) &&& 1431655765)) 2) &&& 858993459)) + (iushr_ (((v0 - ((iushr_ v0 1) &&& 1431655765)) &&& 858993459) + ((iushr_ (v0 - ((iushr_ v0 1) &&& 1431655765)) 2) &&& 858993459)) 4)) &&& 252645135) + (iushr_ (((((v0 - ((iushr_ v0 1) &&& 1431655765)) &&& 858993459) + ((iushr_ (v0 - ((iushr_ v0 1) &&& 1431655765)) 2) &&& 858993459)) + (iushr_ (((v0 - ((iushr_ v0 1) &&& 1431655765)) &&& 858993459) + ((iushr_ (v0 - ((iushr_ v0 1) &&& 1431655765)) 2) &&& 858993459)) 4)) &&& 252645135) 8)) 16)) &&& 63
theorem bc_256 : ∀ k : Fin 256, bcv (nI (w8 k.val)) = nI (n8 k.val) := by decide +kernel
theorem bitc (w : Int32) (σ : Hp) : f_In_bitCount (w &&& 286331153) σ = some (nI (odds w), σ) := by
  have hq : ∀ q, q < 8 → nib (w &&& 286331153) q = nib w q % 2 := by
    intro q h
    rw [nib_and]
    have h1 : nib 286331153 q = 2 ^ 1 - 1 := by
      rcases c8 h with rfl | rfl | rfl | rfl | rfl | rfl | rfl | rfl <;> decide
    rw [h1, Nat.and_two_pow_sub_one_eq_mod]
  have hx : (w &&& 286331153) = nI ((w &&& 286331153).toBitVec.toNat) := by
    apply Int32.toBitVec_inj.mp
    apply BitVec.eq_of_toNat_eq
    rw [pk_tn (w_lt _)]
  have h0 := hq 0 (by decide); have h1 := hq 1 (by decide); have h2 := hq 2 (by decide); have h3 := hq 3 (by decide)
  have h4 := hq 4 (by decide); have h5 := hq 5 (by decide); have h6 := hq 6 (by decide); have h7 := hq 7 (by decide)
  have hB := w_lt (w &&& 286331153)
  have hy : (w &&& 286331153).toBitVec.toNat = nib (w &&& 286331153) 0 + 16 * nib (w &&& 286331153) 1 + 256 * nib (w &&& 286331153) 2 + 4096 * nib (w &&& 286331153) 3 + 65536 * nib (w &&& 286331153) 4 + 1048576 * nib (w &&& 286331153) 5 + 16777216 * nib (w &&& 286331153) 6 + 268435456 * nib (w &&& 286331153) 7 := by
    unfold nib
    generalize (w &&& 286331153).toBitVec.toNat = x at hB ⊢
    simp
    omega
  rw [h0, h1, h2, h3, h4, h5, h6, h7] at hy
  have key : ∀ b0 b1 b2 b3 b4 b5 b6 b7 : Nat, b0 < 2 → b1 < 2 → b2 < 2 → b3 < 2 → b4 < 2 → b5 < 2 → b6 < 2 → b7 < 2 → bcv (nI (b0 + 16 * b1 + 256 * b2 + 4096 * b3 + 65536 * b4 + 1048576 * b5 + 16777216 * b6 + 268435456 * b7)) = nI (b0 + b1 + b2 + b3 + b4 + b5 + b6 + b7) := by
    intro b0 b1 b2 b3 b4 b5 b6 b7 g0 g1 g2 g3 g4 g5 g6 g7
    have hk : b0 + 2 * b1 + 4 * b2 + 8 * b3 + 16 * b4 + 32 * b5 + 64 * b6 + 128 * b7 < 256 := by omega
    have := bc_256 ⟨b0 + 2 * b1 + 4 * b2 + 8 * b3 + 16 * b4 + 32 * b5 + 64 * b6 + 128 * b7, hk⟩
    have e1 : w8 (b0 + 2 * b1 + 4 * b2 + 8 * b3 + 16 * b4 + 32 * b5 + 64 * b6 + 128 * b7) = b0 + 16 * b1 + 256 * b2 + 4096 * b3 + 65536 * b4 + 1048576 * b5 + 16777216 * b6 + 268435456 * b7 := by unfold w8; omega
    have e2 : n8 (b0 + 2 * b1 + 4 * b2 + 8 * b3 + 16 * b4 + 32 * b5 + 64 * b6 + 128 * b7) = b0 + b1 + b2 + b3 + b4 + b5 + b6 + b7 := by unfold n8; omega
    simp only [e1, e2] at this
    exact this
  have hm : ∀ q, nib w q % 2 < 2 := fun q => Nat.mod_lt _ (by decide)
  show some (bcv (w &&& 286331153), σ) = _
  rw [hx, hy, key _ _ _ _ _ _ _ _ (hm 0) (hm 1) (hm 2) (hm 3) (hm 4) (hm 5) (hm 6) (hm 7)]
  rfl
