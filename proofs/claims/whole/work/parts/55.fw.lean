/-- ways over by, as the other one lays them -/
def f_mk (by_ k : Nat) (f : Int → Int) : Int → Int := zup f k (if f ((k : Int) / 6 * 6 + by_) + f (6 * (by_ : Int) + (k : Int) % 6) < f k then f ((k : Int) / 6 * 6 + by_) + f (6 * (by_ : Int) + (k : Int) % 6) else f k)
def f_mb (by_ : Nat) (f : Int → Int) : Int → Int := zit (f_mk by_) 36 f
theorem zit36 {α : Type} (s : Nat → α → α) (x : α) : zit s 36 x = zit (fun a x => zit (fun b => s (6 * a + b)) 6 x) 6 x := rfl
/-- both tables, over by -/
def zfw (B : Int) (by_ : Int) (f g : Int → Int) : Prop := (∀ z, 0 ≤ z → z < 36 → (f z = g z ∧ 0 ≤ g z ∧ g z ≤ 2 * B ∧ (z / 6 = by_ ∨ z % 6 = by_ → g z ≤ B)) ∨ (g z = 1000000 ∧ f z = 99999)) ∧ ∀ p, 0 ≤ p → p < 6 → g (p * 6 + p) = 0
theorem zfw_s {B : Int} {w a b : Nat} {f g : Int → Int} (hB : 0 ≤ B ∧ B ≤ 4000) (hw : w < 6) (ha : a < 6) (hb : b < 6) (h : zfw B w f g) : zfw B w (f_mk w (6 * a + b) f) (f_fb w a b g) := by
  obtain ⟨h1, h2⟩ := h
  have i1 : (((6 * a + b : Nat) : Int)) / 6 * 6 + w = (a : Int) * 6 + w := by omega
  have i2 : 6 * (w : Int) + ((6 * a + b : Nat) : Int) % 6 = (w : Int) * 6 + b := by omega
  have i3 : ((6 * a + b : Nat) : Int) = (a : Int) * 6 + b := by omega
  unfold f_mk f_fb
  rw [i1, i2, i3]
  have q1 := h1 ((a : Int) * 6 + w) (by omega) (by omega)
  have q2 := h1 ((w : Int) * 6 + b) (by omega) (by omega)
  have q3 := h1 ((a : Int) * 6 + b) (by omega) (by omega)
  have d0 := h2 w (by omega) (by omega)
  have hrow : a = w → g ((a : Int) * 6 + w) = 0 ∧ g ((w : Int) * 6 + b) = g ((a : Int) * 6 + b) := fun e => by rw [e]; exact ⟨d0, rfl⟩
  have hcol : b = w → g ((w : Int) * 6 + b) = 0 ∧ g ((a : Int) * 6 + w) = g ((a : Int) * 6 + b) := fun e => by rw [e]; exact ⟨d0, rfl⟩
  have hdg : a = b → g ((a : Int) * 6 + b) = 0 := fun e => by rw [e]; exact h2 b (by omega) (by omega)
  generalize hz3 : (a : Int) * 6 + b = z3 at *
  generalize hz1 : (a : Int) * 6 + w = z1 at *
  generalize hz2 : (w : Int) * 6 + b = z2 at *
  clear i1 i2 i3
  have p1 : 0 ≤ g z1 := by clear hrow hcol hdg q2 q3; rcases q1 with ⟨_, h, _⟩ | ⟨h, _⟩ <;> omega
  have p2 : 0 ≤ g z2 := by clear hrow hcol hdg q1 q3; rcases q2 with ⟨_, h, _⟩ | ⟨h, _⟩ <;> omega
  have p3 : 0 ≤ g z3 ∧ g z3 ≤ 1000000 := by clear hrow hcol hdg q1 q2; rcases q3 with ⟨_, h, h', _⟩ | ⟨h, _⟩ <;> omega
  by_cases hlt : g z1 + g z2 < g z3
  · have hna : a ≠ w := fun e => by have := hrow e; omega
    have hnb : b ≠ w := fun e => by have := hcol e; omega
    have hab : a ≠ b := fun e => by have := hdg e; omega
    clear hrow hcol hdg
    obtain ⟨e1, _, _, r1⟩ | ⟨e1, _⟩ := q1
    · obtain ⟨e2, _, _, r2⟩ | ⟨e2, _⟩ := q2
      · have b1 := r1 (Or.inr (by clear q3 r1 r2; omega))
        have b2 := r2 (Or.inl (by clear q3 r1 r2; omega))
        have hf : f z1 + f z2 < f z3 := by
          clear r1 r2
          rcases q3 with ⟨e3, _⟩ | ⟨_, e3⟩ <;> omega
        rw [if_pos hlt, if_pos hf]
        clear r1 r2 q3
        refine ⟨fun z za zb => ?_, fun p p0 p1 => ?_⟩
        · by_cases hz : z = z3
          · rw [hz, zup_s, zup_s]
            left
            exact ⟨by omega, by omega, by omega, by omega⟩
          · rw [zup_n hz, zup_n hz]
            exact h1 z za zb
        · rw [zup_n (by omega)]
          exact h2 p p0 p1
      · exfalso; clear q3 r1; omega
    · exfalso; clear q3 q2; omega
  · have hf : ¬ f z1 + f z2 < f z3 := by
      clear hrow hcol hdg
      rcases q1 with ⟨e1, _, _, _⟩ | ⟨_, e1⟩ <;> rcases q2 with ⟨e2, _, _, _⟩ | ⟨_, e2⟩ <;> rcases q3 with ⟨e3, _, e4, _⟩ | ⟨_, e3⟩ <;> omega
    rw [if_neg hlt, if_neg hf]
    refine ⟨fun z za zb => ?_, h2⟩
    by_cases hz : z = z3
    · rw [hz, zup_s]
      exact q3
    · rw [zup_n hz]
      exact h1 z za zb
/-- both tables -/
def zfwv (B : Int) (f g : Int → Int) : Prop := (∀ z, 0 ≤ z → z < 36 → (f z = g z ∧ 0 ≤ g z ∧ g z ≤ B) ∨ (g z = 1000000 ∧ f z = 99999)) ∧ ∀ p, 0 ≤ p → p < 6 → g (p * 6 + p) = 0
theorem zfwv_k {B : Int} {w : Nat} {f g : Int → Int} (hB : 0 ≤ B ∧ B ≤ 4000) (hw : w < 6) (h : zfwv B f g) : zfwv (2 * B) (f_mb w f) (f_fk w g) := by
  have h0 : zfw B w f g := ⟨fun z a b => by rcases h.1 z a b with ⟨q1, q2, q3⟩ | q; exact Or.inl ⟨q1, q2, by omega, fun _ => q3⟩; exact Or.inr q, h.2⟩
  have key : zfw B w (f_mb w f) (f_fk w g) := by
    unfold f_mb f_fk
    rw [zit36]
    refine zit_rel (R := fun _ (x y : Int → Int) => zfw B w x y) (n := 6) (fun a x y ha hR => ?_) 6 (Nat.le_refl _) f g h0
    exact zit_rel (R := fun _ (x y : Int → Int) => zfw B w x y) (n := 6) (fun b x y hb hR => zfw_s (w := w) (a := a) (b := b) hB hw ha hb hR) 6 (Nat.le_refl _) x y hR
  exact ⟨fun z a b => by rcases key.1 z a b with ⟨q1, q2, q3, _⟩ | q; exact Or.inl ⟨q1, q2, q3⟩; exact Or.inr q, key.2⟩
theorem zfwv_0 {R : Int → Int} (hR : z_bd R 36 0 99) : zfwv 99 (mRf R) (zit f_dg 6 (f_c0 R)) := by
  have key : ∀ z : Int, 0 ≤ z → z < 36 → zit f_dg 6 (f_c0 R) z = if z / 6 = z % 6 then 0 else f_c0 R z := by
    intro z h0 h1
    show zup (zup (zup (zup (zup (zup (f_c0 R) (((0 : Nat) : Int) * 6 + ((0 : Nat) : Int)) 0) (((1 : Nat) : Int) * 6 + ((1 : Nat) : Int)) 0) (((2 : Nat) : Int) * 6 + ((2 : Nat) : Int)) 0) (((3 : Nat) : Int) * 6 + ((3 : Nat) : Int)) 0) (((4 : Nat) : Int) * 6 + ((4 : Nat) : Int)) 0) (((5 : Nat) : Int) * 6 + ((5 : Nat) : Int)) 0 z = _
    unfold zup
    (repeat' split) <;> first | rfl | omega
  refine ⟨fun z a b => ?_, fun p a b => ?_⟩
  · rw [key z a b]
    have := hR z a b
    unfold mRf f_c0
    (repeat' split) <;> omega
  · rw [key _ (by omega) (by omega), if_pos (by omega)]
theorem zfwv_all {R : Int → Int} (hR : z_bd R 36 0 99) : zfwv 6336 (zit f_mb 6 (mRf R)) (f_ms R) := by
  have key : zfwv ((99 * 2 ^ 6 : Nat) : Int) (zit f_mb 6 (mRf R)) (f_ms R) := by
    unfold f_ms
    refine zit_rel (R := fun k (x y : Int → Int) => zfwv ((99 * 2 ^ k : Nat) : Int) x y) (n := 6) (fun k x y hk hR => ?_) 6 (Nat.le_refl _) _ _ (zfwv_0 hR)
    have hp : 2 ^ k ≤ 32 := Nat.pow_le_pow_right (n := 2) (by omega) (show k ≤ 5 by omega)
    have := zfwv_k (w := k) (B := ((99 * 2 ^ k : Nat) : Int)) (by omega) hk hR
    rwa [show 2 * ((99 * 2 ^ k : Nat) : Int) = ((99 * 2 ^ (k + 1) : Nat) : Int) by rw [Nat.pow_succ]; omega] at this
  exact key
theorem f_mfw_eq {R : Int → Int} (hR : z_bd R 36 0 99) (z : Int) (h0 : 0 ≤ z) (h1 : z < 36) : zit f_mb 6 (mRf R) z = mF (f_ms R) z := by
  have := (zfwv_all hR).1 z h0 h1
  unfold mF
  split <;> omega
theorem f_ms_D {R : Int → Int} (hR : z_bd R 36 0 99) : zD (f_ms R) := fun z a b => by
  have := (zfwv_all hR).1 z a b
  omega
theorem f_ms_0 {R : Int → Int} (hR : z_bd R 36 0 99) (p : Int) (a : 0 ≤ p) (b : p < 6) : f_ms R (p * 6 + p) = 0 := (zfwv_all hR).2 p a b
