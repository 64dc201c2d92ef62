/-! plain helpers: folds over 0 .. n-1, sets as bits, arrays as functions -/
def zit {α : Type} (step : Nat → α → α) : Nat → α → α
  | 0, x => x
  | n + 1, x => step n (zit step n x)
def zset (p : Nat → Bool) : Nat → Nat
  | 0 => 0
  | n + 1 => if p n then zset p n ||| 2 ^ n else zset p n
def zany (p : Nat → Bool) : Nat → Bool
  | 0 => false
  | n + 1 => zany p n || p n
def zsum (f : Nat → Int) : Nat → Int
  | 0 => 0
  | n + 1 => zsum f n + f n
def zup (f : Int → Int) (z x : Int) : Int → Int := fun w => if w = z then x else f w
theorem zany_iff {p : Nat → Bool} {n : Nat} : zany p n = true ↔ ∃ i, i < n ∧ p i = true := by
  induction n with
  | zero => simp [zany]
  | succ n ih =>
    unfold zany
    rw [Bool.or_eq_true, ih]
    constructor
    · rintro (⟨i, h1, h2⟩ | h)
      · exact ⟨i, by omega, h2⟩
      · exact ⟨n, by omega, h⟩
    · rintro ⟨i, h1, h2⟩
      by_cases hi : i = n
      · subst hi; exact Or.inr h2
      · exact Or.inl ⟨i, by omega, h2⟩
theorem zany_no {p : Nat → Bool} {n : Nat} (h : ∀ i, i < n → p i = false) : zany p n = false := by
  cases hz : zany p n with
  | false => rfl
  | true =>
    obtain ⟨i, h1, h2⟩ := zany_iff.mp hz
    rw [h i h1] at h2; cases h2
theorem zset_bit {p : Nat → Bool} {n k : Nat} : (zset p n).testBit k = (decide (k < n) && p k) := by
  induction n with
  | zero => simp [zset]
  | succ n ih =>
    unfold zset
    split
    · next h =>
      rw [Nat.testBit_or, ih, Nat.testBit_two_pow]
      by_cases hk : k = n
      · subst hk; simp [h]
      · have e1 : decide (n = k) = false := by simp; omega
        have e2 : decide (k < n + 1) = decide (k < n) := by simp; omega
        rw [e1, e2, Bool.or_false]
    · next h =>
      rw [ih]
      by_cases hk : k = n
      · subst hk; simp [h]
      · have e2 : decide (k < n + 1) = decide (k < n) := by simp; omega
        rw [e2]
theorem zset_lt {p : Nat → Bool} {n : Nat} : zset p n < 2 ^ n := by
  apply Nat.lt_pow_two_of_testBit
  intro i hi
  rw [zset_bit]
  have : decide (i < n) = false := by simp; omega
  rw [this, Bool.false_and]
theorem z_cast2 (k : Nat) : ((2 ^ k : Nat) : Int) = 2 ^ k := by simp
theorem zb_shl {k : Nat} (h : k < 8) : iI 1 <<< (iI (k : Int) &&& 31) = iI ((2 ^ k : Nat) : Int) := by
  revert k; decide +kernel
theorem zb_shl' {z : Int} (h0 : 0 ≤ z) (h : z < 8) : iI 1 <<< (iI z &&& 31) = iI ((2 ^ z.toNat : Nat) : Int) := by
  have := zb_shl (k := z.toNat) (by omega)
  rwa [show ((z.toNat : Nat) : Int) = z by omega] at this
theorem zb_or {a b : Nat} (ha : a < 64) (hb : b < 64) : iI (a : Int) ||| iI (b : Int) = iI ((a ||| b : Nat) : Int) := by
  revert a; revert b; decide +kernel
theorem zb_and {a b : Nat} (ha : a < 64) (hb : b < 64) : iI (a : Int) &&& iI (b : Int) = iI ((a &&& b : Nat) : Int) := by
  revert a; revert b; decide +kernel
/-- a without b -/
def zdf (a b : Nat) : Nat := a &&& (63 ^^^ b)
theorem zb_df {a b : Nat} (ha : a < 64) (hb : b < 64) : iI (a : Int) &&& (iI (b : Int) ^^^ iI (-1)) = iI ((zdf a b : Nat) : Int) := by
  revert a; revert b; decide +kernel
theorem zb_not {b : Nat} (hb : b < 64) : iI (b : Int) ^^^ iI (-1) = iI (-(b : Int) - 1) := by
  revert b; decide +kernel
theorem zb_df' {a b : Nat} (ha : a < 64) (hb : b < 64) : iI (a : Int) &&& iI (-(b : Int) - 1) = iI ((zdf a b : Nat) : Int) := by rw [← zb_not hb]; exact zb_df ha hb
theorem zb_shr {a k : Nat} (ha : a < 64) (hk : k < 8) : iI (a : Int) >>> (iI (k : Int) &&& 31) = iI ((a >>> k : Nat) : Int) := by
  revert a; revert k; decide +kernel
theorem zb_one {a k : Nat} (ha : a < 64) (hk : k < 8) : iI ((a >>> k : Nat) : Int) &&& iI 1 = iI (if a.testBit k then 1 else 0) := by
  revert a; revert k; decide +kernel
theorem z_or_lt {a b : Nat} (ha : a < 64) (hb : b < 64) : a ||| b < 64 := Nat.or_lt_two_pow (n := 6) ha hb
theorem z_df_lt {a b : Nat} (ha : a < 64) : zdf a b < 64 := Nat.lt_of_le_of_lt Nat.and_le_left ha
theorem z_pw {k : Nat} (h : k < 6) : 2 ^ k < 64 := by revert k; decide
theorem z_df_bit {a b k : Nat} (hk : k < 6) : (zdf a b).testBit k = (a.testBit k && !b.testBit k) := by
  unfold zdf
  rw [Nat.testBit_and, Nat.testBit_xor]
  have : (63 : Nat).testBit k = true := by revert k; decide
  rw [this]; cases b.testBit k <;> rfl
theorem z_bits {a b : Nat} (ha : a < 64) (hb : b < 64) (h : ∀ k, k < 6 → a.testBit k = b.testBit k) : a = b := by
  apply Nat.eq_of_testBit_eq
  intro i
  by_cases hi : i < 6
  · exact h i hi
  · have hp : 2 ^ 6 ≤ 2 ^ i := Nat.pow_le_pow_right (by decide) (by omega)
    rw [Nat.testBit_lt_two_pow (by omega), Nat.testBit_lt_two_pow (by omega)]
/-- an array of numbers holds f at its places below N -/
def z_ar (I : zI) (q : Nat) (N : Int) (f : Int → Int) : Prop := ∀ z : Int, 0 ≤ z → z < N → I q z.toNat = iI (f z)
def z_bd (f : Int → Int) (N lo hi : Int) : Prop := ∀ z : Int, 0 ≤ z → z < N → lo ≤ f z ∧ f z ≤ hi
theorem z_ar_set {I : zI} {q : Nat} {N : Int} {f : Int → Int} (h : z_ar I q N f) {z : Int} (h0 : 0 ≤ z) (x : Int) : z_ar (zu I q (zu (I q) z.toNat (iI x))) q N (zup f z x) := by
  intro w hw hN
  rw [zu_s]
  by_cases e : w = z
  · subst e; rw [zu_s]; simp [zup]
  · rw [zu_n _ _ (by omega), h w hw hN]; simp [zup, e]
theorem z_ar_fr {I I1 : zI} {q : Nat} {N : Int} {f : Int → Int} (h : z_ar I q N f) (e : I1 q = I q) : z_ar I1 q N f := fun z h0 h1 => by rw [e]; exact h z h0 h1
theorem z_bd_up {f : Int → Int} {N lo hi : Int} (h : z_bd f N lo hi) {z x : Int} (h1 : lo ≤ x) (h2 : x ≤ hi) : z_bd (zup f z x) N lo hi := by
  intro w h3 h4
  unfold zup
  split
  · exact ⟨h1, h2⟩
  · exact h w h3 h4
theorem z_ar_eq {I : zI} {q : Nat} {N : Int} {f g : Int → Int} (h : z_ar I q N f) (e : ∀ z, 0 ≤ z → z < N → f z = g z) : z_ar I q N g := fun z h0 h1 => by rw [h z h0 h1, e z h0 h1]
theorem z_ar_any (I : zI) (q : Nat) (N : Int) : z_ar I q N (fun z => (I q z.toNat).toInt) := fun z _ _ => iI_of _
theorem z_ar_push {I : zI} {q : Nat} {j : Nat} {f : Int → Int} (h : z_ar I q j f) : z_ar (zu I q (zu (I q) (j : Int).toNat (iI (f j)))) q ((j + 1 : Nat) : Int) f := by
  intro w hw hN
  rw [zu_s]
  by_cases e : w = (j : Int)
  · subst e; rw [zu_s]
  · rw [zu_n _ _ (by omega), h w hw (by omega)]
theorem z_ar_0 {I : zI} {q : Nat} {f : Int → Int} : z_ar I q ((0 : Nat) : Int) f := fun z h0 h1 => absurd h1 (by omega)
theorem z_ar_le {I : zI} {q : Nat} {N M : Int} {f : Int → Int} (h : z_ar I q N f) (hM : M ≤ N) : z_ar I q M f := fun z h0 h1 => h z h0 (by omega)
