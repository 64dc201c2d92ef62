def f_hw (D : Int → Int) (a : Int) : Int := if a = -1 then 0 else D (a * 6)
abbrev zRec : Type := Nat → Nat → Int → Int → Int → Nat × Nat
/-- her turn: what the errand a would bring -/
def f_ps0 (D W U K : Int → Int) (e : Nat) (rec : zRec) (nx opn : Nat) (her him left : Int) (a : Nat) (b : Nat × Nat) : Nat × Nat :=
  if opn.testBit a = true ∧ (a < e ∧ (K a = 2 ∨ K a = 0)) ∧ f_hw D (W a) + f_hw D him ≤ left - D (her * 6 + W a) ∧ b.1 < (rec nx (zdf opn (2 ^ a)) (W a) him (left - D (her * 6 + W a))).1 + (U a).toNat then ((rec nx (zdf opn (2 ^ a)) (W a) him (left - D (her * 6 + W a))).1 + (U a).toNat, (rec nx (zdf opn (2 ^ a)) (W a) him (left - D (her * 6 + W a))).2) else b
def f_ps1 (D W U K : Int → Int) (e : Nat) (rec : zRec) (nx opn : Nat) (her him left : Int) (a : Nat) (b : Nat × Nat) : Nat × Nat :=
  if opn.testBit a = true ∧ (a < e ∧ (K a = 2 ∨ K a = 1)) ∧ f_hw D (W a) + f_hw D her ≤ left - D (him * 6 + W a) ∧ b.2 < (rec nx (zdf opn (2 ^ a)) her (W a) (left - D (him * 6 + W a))).2 + (U a).toNat then ((rec nx (zdf opn (2 ^ a)) her (W a) (left - D (him * 6 + W a))).1, (rec nx (zdf opn (2 ^ a)) her (W a) (left - D (him * 6 + W a))).2 + (U a).toNat) else b
/-- k turns to go, on's turn -/
def f_play (D W U K : Int → Int) (e : Nat) : Nat → zRec
  | 0 => fun _ _ _ _ _ => (0, 0)
  | k + 1 => fun on opn her him left => if on = 0 then zit (f_ps0 D W U K e (f_play D W U K e k) (if him = -1 then 0 else 1) opn her him left) 6 (if him = -1 then (0, 0) else f_play D W U K e k 1 opn (-1) him (left - f_hw D her)) else zit (f_ps1 D W U K e (f_play D W U K e k) (if her = -1 then 1 else 0) opn her him left) 6 (if her = -1 then (0, 0) else f_play D W U K e k 0 opn her (-1) (left - f_hw D him))
theorem f_play_b {D W U K : Int → Int} {e : Nat} (hU : z_bd U 6 0 9) : ∀ k on opn her him left, (f_play D W U K e k on opn her him left).1 ≤ 9 * k ∧ (f_play D W U K e k on opn her him left).2 ≤ 9 * k := by
  intro k
  induction k with
  | zero => intro _ _ _ _ _; exact ⟨Nat.zero_le _, Nat.zero_le _⟩
  | succ k ih =>
    intro on opn her him left
    have hz : ∀ (st : Nat → Nat × Nat → Nat × Nat) (b0 : Nat × Nat), (∀ a b, a < 6 → (b.1 ≤ 9 * (k + 1) ∧ b.2 ≤ 9 * (k + 1)) → ((st a b).1 ≤ 9 * (k + 1) ∧ (st a b).2 ≤ 9 * (k + 1))) → (b0.1 ≤ 9 * (k + 1) ∧ b0.2 ≤ 9 * (k + 1)) → (zit st 6 b0).1 ≤ 9 * (k + 1) ∧ (zit st 6 b0).2 ≤ 9 * (k + 1) := fun st b0 h1 h2 => zit_ind (p := fun b : Nat × Nat => b.1 ≤ 9 * (k + 1) ∧ b.2 ≤ 9 * (k + 1)) (n := 6) h1 6 (Nat.le_refl _) b0 h2
    unfold f_play
    split
    · refine hz _ _ (fun a b ha hb => ?_) ?_
      · generalize (if him = -1 then (0 : Nat) else 1) = nx
        unfold f_ps0
        have h1 := ih nx (zdf opn (2 ^ a)) (W a) him (left - D (her * 6 + W a))
        have h2 := hU (a : Int) (by omega) (by omega)
        split
        · exact ⟨by simp only; omega, by simp only; omega⟩
        · exact hb
      · split
        · exact ⟨Nat.zero_le _, Nat.zero_le _⟩
        · have h1 := ih 1 opn (-1) him (left - f_hw D her)
          omega
    · refine hz _ _ (fun a b ha hb => ?_) ?_
      · generalize (if her = -1 then (1 : Nat) else 0) = nx
        unfold f_ps1
        have h1 := ih nx (zdf opn (2 ^ a)) her (W a) (left - D (him * 6 + W a))
        have h2 := hU (a : Int) (by omega) (by omega)
        split
        · exact ⟨by simp only; omega, by simp only; omega⟩
        · exact hb
      · split
        · exact ⟨Nat.zero_le _, Nat.zero_le _⟩
        · have h1 := ih 0 opn her (-1) (left - f_hw D him)
          omega